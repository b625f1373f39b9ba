def fX12_best_b46 (k46_0 : Int32) (w46 : Int32 × Int32) : Option ((Int32 × Int32) ⊕ (Int32 × Int32)) :=
  if k46_0 ≤ w46.1 then (some (.inr (w46.1, w46.2))) else (some (.inl ((w46.1 + 1), (w46.2 * k46_0))))
def fX12_best_b87 (k67_0 : Int32) (w87 : Int32 × Int32 × Int32 × Int32) : Option ((Int32 × Int32 × Int32 × Int32) ⊕ (Int32 × Int32 × Int32 × Int32)) :=
  if k67_0 ≤ w87.1 then (some (.inr (w87.1, w87.2.1, w87.2.2.1, w87.2.2.2))) else (if k67_0 = 0 then none else if k67_0 = 0 then none else some (.inl ((w87.1 + 1), (w87.2.1 * 10), (w87.2.2.1 / k67_0), (w87.2.2.2 + (w87.2.1 * ((w87.2.2.1 - w87.2.2.1 / k67_0 * k67_0) + 1))))))
def fX12_best_b67 (v_town : Nat → Int32) (v_now : Nat → Int32) (k67_0 : Int32) (o46 : Int32 × Int32) (w67 : Int32 × Int32 × Int32 × (Nat → Int32)) : Option ((Int32 × Int32 × Int32 × (Nat → Int32)) ⊕ (Int32 × Int32 × Int32 × (Nat → Int32))) :=
  if o46.2 ≤ w67.1 then (some (.inr (w67.1, w67.2.1, w67.2.2.1, w67.2.2.2))) else (Option.bind (oz_loop (fX12_best_b87 k67_0) oz_fuel (0, 1, w67.1, 0)) (fun o87 => Option.bind (fX12_isOrder v_town o87.2.2.2) (fun y129 => if y129 = 0 then (some (.inl ((w67.1 + 1), w67.2.1, w67.2.2.1, w67.2.2.2))) else (Option.bind (fX12_pulledBy v_town v_now w67.2.2.2 o87.2.2.2) (fun y138 => if w67.2.1 ≤ y138.1 then (if w67.2.1 ≤ y138.1 then (some (.inl ((w67.1 + 1), w67.2.1, w67.2.2.1, y138.2))) else (some (.inl ((w67.1 + 1), y138.1, w67.2.2.1, y138.2)))) else (if w67.2.1 ≤ y138.1 then (some (.inl ((w67.1 + 1), w67.2.1, o87.2.2.2, y138.2))) else (some (.inl ((w67.1 + 1), y138.1, o87.2.2.2, y138.2)))))))))
def fX12_best (v_town : Nat → Int32) (v_now : Nat → Int32) (v_stands : Nat → Int32) (a1 : Int32) : Option (Int32 × (Nat → Int32)) :=
  Option.bind (fX12_in (Int32.toInt64 a1) (0 : Int64) (1 : Int64)) (fun y4 => if y4 = 0 then (some ((-1000000002), v_stands)) else (if (v_town (Int32.toNatClampNeg 2)) = 0 then (Option.bind (oz_loop (fX12_best_b46 (v_town (Int32.toNatClampNeg 2))) oz_fuel (0, 0)) (fun o46 => Option.bind (oz_loop (fX12_best_b67 v_town v_now (v_town (Int32.toNatClampNeg 2)) o46) oz_fuel (0, 100000000, (-1), v_stands)) (fun o67 => if o67.2.2.1 = (-1) then (some (o67.2.2.1, o67.2.2.2)) else (if a1 = 0 then (some (o67.2.2.1, o67.2.2.2)) else (some (o67.2.1, o67.2.2.2)))))) else (if (v_town (Int32.toNatClampNeg 2)) ≤ 6 then (Option.bind (oz_loop (fX12_best_b46 (v_town (Int32.toNatClampNeg 2))) oz_fuel (0, 1)) (fun o46 => Option.bind (oz_loop (fX12_best_b67 v_town v_now (v_town (Int32.toNatClampNeg 2)) o46) oz_fuel (0, 100000000, (-1), v_stands)) (fun o67 => if o67.2.2.1 = (-1) then (some (o67.2.2.1, o67.2.2.2)) else (if a1 = 0 then (some (o67.2.2.1, o67.2.2.2)) else (some (o67.2.1, o67.2.2.2)))))) else (Option.bind (oz_loop (fX12_best_b46 (v_town (Int32.toNatClampNeg 2))) oz_fuel (0, 0)) (fun o46 => Option.bind (oz_loop (fX12_best_b67 v_town v_now (v_town (Int32.toNatClampNeg 2)) o46) oz_fuel (0, 100000000, (-1), v_stands)) (fun o67 => if o67.2.2.1 = (-1) then (some (o67.2.2.1, o67.2.2.2)) else (if a1 = 0 then (some (o67.2.2.1, o67.2.2.2)) else (some (o67.2.1, o67.2.2.2)))))))))
def rmX12_best : Room := { frames := 3, cells := 0, slots := 0, locals := 71 }
set_option maxHeartbeats 4000000 in
set_option maxRecDepth 100000 in
theorem tX12_best (l : Launch) (dC : Nat → ClassId) (dI : Nat → Nat → Nat) (cI cZ : ClassId) (q_aside q_book q_free q_images q_kept q_now q_past q_read q_sights q_stands q_text q_this q_town q_went : Nat) (sz : Nat) (v_undos : Int32) (v_seed : Int64) (v_size : Int32) (v_fault : Int32) (v_sightMany : Int32) (v_bookMany : Int32) (v_at : Int32) (v_begin : Int32) (v_sign : Int32) (v_figures : Int32) (v_value : Int32) (v_wrong : Int32) (v_town : Nat → Int32) (v_now : Nat → Int32) (v_stands : Nat → Int32) (a1 : Int32) (out : Int32 × (Nat → Int32)) (hrun : fX12_best v_town v_now v_stands a1 = some out) : Met l yX12_best wsX12_best rmX12_best (va_Pc [.ref q_this, .int a1] (fun U => U.heap.size = sz ∧ va_P (dC, dI) vwCl [(q_this, .inr (12, [.ref q_town, .ref q_read, .ref q_now, .ref q_aside, .ref q_past, .int v_undos, .ref q_images, .ref q_kept, .long v_seed, .ref q_text, .int v_size, .int v_fault, .ref q_sights, .int v_sightMany, .ref q_book, .int v_bookMany, .int v_at, .int v_begin, .int v_sign, .int v_figures, .int v_value, .int v_wrong, .ref q_went, .ref q_free, .ref q_stands])), (q_town, .inl (cI, 27, .inl v_town)), (q_now, .inl (cI, 19, .inl v_now)), (q_stands, .inl (cI, 8, .inl v_stands))] U.heap ∧ va_K (dC, dI) vwCl [(cI, .int), (cZ, .boolean)] U ∧ va_D (fun _ => True) [(q_this, .inr (12, [.ref q_town, .ref q_read, .ref q_now, .ref q_aside, .ref q_past, .int v_undos, .ref q_images, .ref q_kept, .long v_seed, .ref q_text, .int v_size, .int v_fault, .ref q_sights, .int v_sightMany, .ref q_book, .int v_bookMany, .int v_at, .int v_begin, .int v_sign, .int v_figures, .int v_value, .int v_wrong, .ref q_went, .ref q_free, .ref q_stands])), (q_town, .inl (cI, 27, .inl v_town)), (q_now, .inl (cI, 19, .inl v_now)), (q_stands, .inl (cI, 8, .inl v_stands))])) (va_Qi (fun (r : Int32) (_ : Unit) => r = out.1) (fun _ t => va_P (dC, dI) vwCl [(q_this, .inr (12, [.ref q_town, .ref q_read, .ref q_now, .ref q_aside, .ref q_past, .int v_undos, .ref q_images, .ref q_kept, .long v_seed, .ref q_text, .int v_size, .int v_fault, .ref q_sights, .int v_sightMany, .ref q_book, .int v_bookMany, .int v_at, .int v_begin, .int v_sign, .int v_figures, .int v_value, .int v_wrong, .ref q_went, .ref q_free, .ref q_stands])), (q_town, .inl (cI, 27, .inl v_town)), (q_now, .inl (cI, 19, .inl v_now)), (q_stands, .inl (cI, 8, .inl out.2))] t.heap ∧ va_K (dC, dI) vwCl [(cI, .int), (cZ, .boolean)] t ∧ va_D (va_A [(q_this, .inr (12, [.ref q_town, .ref q_read, .ref q_now, .ref q_aside, .ref q_past, .int v_undos, .ref q_images, .ref q_kept, .long v_seed, .ref q_text, .int v_size, .int v_fault, .ref q_sights, .int v_sightMany, .ref q_book, .int v_bookMany, .int v_at, .int v_begin, .int v_sign, .int v_figures, .int v_value, .int v_wrong, .ref q_went, .ref q_free, .ref q_stands])), (q_town, .inl (cI, 27, .inl v_town)), (q_now, .inl (cI, 19, .inl v_now)), (q_stands, .inl (cI, 8, .inl v_stands))] sz) [(q_this, .inr (12, [.ref q_town, .ref q_read, .ref q_now, .ref q_aside, .ref q_past, .int v_undos, .ref q_images, .ref q_kept, .long v_seed, .ref q_text, .int v_size, .int v_fault, .ref q_sights, .int v_sightMany, .ref q_book, .int v_bookMany, .int v_at, .int v_begin, .int v_sign, .int v_figures, .int v_value, .int v_wrong, .ref q_went, .ref q_free, .ref q_stands])), (q_town, .inl (cI, 27, .inl v_town)), (q_now, .inl (cI, 19, .inl v_now)), (q_stands, .inl (cI, 8, .inl out.2))]) (va_A [(q_this, .inr (12, [.ref q_town, .ref q_read, .ref q_now, .ref q_aside, .ref q_past, .int v_undos, .ref q_images, .ref q_kept, .long v_seed, .ref q_text, .int v_size, .int v_fault, .ref q_sights, .int v_sightMany, .ref q_book, .int v_bookMany, .int v_at, .int v_begin, .int v_sign, .int v_figures, .int v_value, .int v_wrong, .ref q_went, .ref q_free, .ref q_stands])), (q_town, .inl (cI, 27, .inl v_town)), (q_now, .inl (cI, 19, .inl v_now)), (q_stands, .inl (cI, 8, .inl v_stands))] sz)) 0 0 (va_A [(q_this, .inr (12, [.ref q_town, .ref q_read, .ref q_now, .ref q_aside, .ref q_past, .int v_undos, .ref q_images, .ref q_kept, .long v_seed, .ref q_text, .int v_size, .int v_fault, .ref q_sights, .int v_sightMany, .ref q_book, .int v_bookMany, .int v_at, .int v_begin, .int v_sign, .int v_figures, .int v_value, .int v_wrong, .ref q_went, .ref q_free, .ref q_stands])), (q_town, .inl (cI, 27, .inl v_town)), (q_now, .inl (cI, 19, .inl v_now)), (q_stands, .inl (cI, 8, .inl v_stands))] sz) := by
  refine Met.ofW (cc := cX12_best) (maxL := 11) (ret := (some .int)) (by decide) rfl ?_
  intro p e s m args below meth c s₁ B hml hv
  obtain ⟨rfl, hsz, hP, hK, hD0⟩ := hv
  have hx := B.exec
  have hb := B.bytes
  have hr := B.returns
  have hts := atoms_spec (ws := wsX12_best) B.pre
  have hown : s.vm.findClass RX12 = some m.cls := findClass_of_methodNamed B.named
  have hlocks := B.notSynchronized
  subst hsz
  have hD := hD0.self (sz := s.heap.size)
  generalize hAe : va_A [(q_this, .inr (12, [.ref q_town, .ref q_read, .ref q_now, .ref q_aside, .ref q_past, .int v_undos, .ref q_images, .ref q_kept, .long v_seed, .ref q_text, .int v_size, .int v_fault, .ref q_sights, .int v_sightMany, .ref q_book, .int v_bookMany, .int v_at, .int v_begin, .int v_sign, .int v_figures, .int v_value, .int v_wrong, .ref q_went, .ref q_free, .ref q_stands])), (q_town, .inl (cI, 27, .inl v_town)), (q_now, .inl (cI, 19, .inl v_now)), (q_stands, .inl (cI, 8, .inl v_stands))] s.heap.size = A at hD ⊢
  have hA : ∀ q : Nat, s.heap.size ≤ q → A q := fun q h => by rw [← hAe]; exact Or.inr h
  have hS : va_S A s.heap s.heap [] := va_S.rf
  have hl := lv_entry ([.ref q_this, .int a1]) (n := 11) (Nat.le_of_ble_eq_true rfl)
  rw [lg_entry_eq]
  generalize (lg_sl ([.ref q_this, .int a1]) ++ List.replicate (11 - (lg_sl ([.ref q_this, .int a1])).length) Slot.unset).toArray = ls at hl ⊢
  have hl : lv_has ls 11 [(0, .ref q_this), (1, .int a1)] := hl
  unfold fX12_best at hrun
  have hk7 := hts (.fieldLink RX12 7 "LentDrainsModel" "town" "[I") (by decide +kernel)
  have hiX12 : ∀ w ∈ wsX120, w ∈ wsX12_best := by decide +kernel
  have hk220 := hts (.constant RX12 220 (100000000)) (by decide +kernel)
  have hk69 := hts (.constant RX12 69 (-1000000002)) (by decide +kernel)
  refine oz_genQ (fun Q hQ => ?_)
  refine lv_iload_n hx hb dX12_best_0 rfl (lv_at hl 1 rfl) ?_
  refine lv_i2l hx hb dX12_best_1 rfl ?_
  refine lv_lconst (v := 0) hx hb dX12_best_2 (by decide) ?_
  refine lv_lconst (v := 1) hx hb dX12_best_3 (by decide) ?_
  obtain ⟨y4, hc4, hrun⟩ := oz_bind hrun
  have hPc := hP.sub (ws' := []) [] rfl
  have hDc := hD.sub (ws' := []) [] (by decide) rfl
  have hFc := va_free (wc := []) hD hS hA [] rfl
  refine va_calli (va_runS (As := [.long (Int32.toInt64 a1), .long (0 : Int64), .long (1 : Int64)]) (rest := []) ⟨hx, hb, hml, hown, hts⟩ (tX12_in l dC dI cI cZ s.heap.size (Int32.toInt64 a1) (0 : Int64) (1 : Int64) y4 hc4) (va_cwS 3 hts gX12_best_X12_in rfl rfl rfl (by decide +kernel) ⟨Nat.le_of_ble_eq_true rfl, Nat.le_of_ble_eq_true rfl⟩) ⟨fun a U g mk q => by obtain ⟨q0, q1, qP, qK, qD⟩ := q; exact ⟨q0, q1, qP, va_K.moved (u := U) (U := U.calling g mk a) (Vm.Alike.refl U.vm) qK, qD⟩, fun U hU hW => ⟨rfl, by rw [hU], by rw [hU]; exact hPc, va_K.moved hW.alike hK, hDc.weaken (fun _ _ _ _ => trivial)⟩⟩ rfl rfl hl.1 rfl (lv_room (Nat.le_of_ble_eq_true rfl)) dX12_best_4 ⟨Nat.le_of_ble_eq_true rfl, Nat.le_of_ble_eq_true rfl⟩) hS (fun q _ h => hFc q h) hFc (fun r4 u9 t9 H1 locs ht9 hvm9 hw9 hB9 hz9 hkk9 hS => ?_)
  have hw9 : y4 = r4 := hw9.symm
  subst hw9
  obtain ⟨hP9, hK9, hD9⟩ := hB9
  rw [ht9] at hP9
  obtain ⟨hP, hD⟩ := va_join (wr := [(q_this, .inr (12, [.ref q_town, .ref q_read, .ref q_now, .ref q_aside, .ref q_past, .int v_undos, .ref q_images, .ref q_kept, .long v_seed, .ref q_text, .int v_size, .int v_fault, .ref q_sights, .int v_sightMany, .ref q_book, .int v_bookMany, .int v_at, .int v_begin, .int v_sign, .int v_figures, .int v_value, .int v_wrong, .ref q_went, .ref q_free, .ref q_stands])), (q_town, .inl (cI, 27, .inl v_town)), (q_now, .inl (cI, 19, .inl v_now)), (q_stands, .inl (cI, 8, .inl v_stands))]) (w1 := []) hP hD [] [0, 1, 2, 3] rfl rfl (by decide) (by decide) hkk9 hFc hP9 hD9
  generalize H1 = H at hP hS ⊢
  have hP : va_P (dC, dI) vwCl [(q_this, .inr (12, [.ref q_town, .ref q_read, .ref q_now, .ref q_aside, .ref q_past, .int v_undos, .ref q_images, .ref q_kept, .long v_seed, .ref q_text, .int v_size, .int v_fault, .ref q_sights, .int v_sightMany, .ref q_book, .int v_bookMany, .int v_at, .int v_begin, .int v_sign, .int v_figures, .int v_value, .int v_wrong, .ref q_went, .ref q_free, .ref q_stands])), (q_town, .inl (cI, 27, .inl v_town)), (q_now, .inl (cI, 19, .inl v_now)), (q_stands, .inl (cI, 8, .inl v_stands))] H := hP
  have hD : va_D A [(q_this, .inr (12, [.ref q_town, .ref q_read, .ref q_now, .ref q_aside, .ref q_past, .int v_undos, .ref q_images, .ref q_kept, .long v_seed, .ref q_text, .int v_size, .int v_fault, .ref q_sights, .int v_sightMany, .ref q_book, .int v_bookMany, .int v_at, .int v_begin, .int v_sign, .int v_figures, .int v_value, .int v_wrong, .ref q_went, .ref q_free, .ref q_stands])), (q_town, .inl (cI, 27, .inl v_town)), (q_now, .inl (cI, 19, .inl v_now)), (q_stands, .inl (cI, 8, .inl v_stands))] := hD
  refine lv_if_ne (tgt := 13) hx hb dX12_best_7 (by decide) (fun c1 => ?_) (fun c1 => ?_)
  · have hrun := oz_f hrun c1
    refine lv_aload_n hx hb dX12_best_13 rfl (lv_at hl 0 rfl) ?_
    refine va_get (D := (dC, dI)) (ci := 12) (v := .ref q_town) (C := RX12) (T := TX12) (N := 25) hx hb hts hiX12 hown hK hP 0 rfl rfl 0 (by decide) hk7 (fun _ h9 => h9) rfl dX12_best_14 ?_
    refine lv_iconst (v := 2) hx hb dX12_best_17 (by decide) ?_
    refine va_iald hx hb hK hP 1 0 rfl rfl (show ¬ ((2 : Int32) < 0 ∨ 27 ≤ (2 : Int32).toNatClampNeg) by decide) dX12_best_18 ?_
    refine lv_istore_n (lv' := [(2, .int (v_town (Int32.toNatClampNeg 2))), (0, .ref q_this), (1, .int a1)]) hx hb dX12_best_19 rfl hl (by decide) rfl (fun ls hl => ?_)
    refine lv_iconst (v := (-1)) hx hb dX12_best_20 (by decide) ?_
    refine lv_istore_n (lv' := [(3, .int (-1)), (2, .int (v_town (Int32.toNatClampNeg 2))), (0, .ref q_this), (1, .int a1)]) hx hb dX12_best_21 rfl hl (by decide) rfl (fun ls hl => ?_)
    refine lv_ldc hx hb hown hk220 dX12_best_22 ?_
    refine lv_istore (lv' := [(4, .int 100000000), (3, .int (-1)), (2, .int (v_town (Int32.toNatClampNeg 2))), (0, .ref q_this), (1, .int a1)]) hx hb dX12_best_24 hl (by decide) rfl (fun ls hl => ?_)
    refine lv_iload_n hx hb dX12_best_26 rfl (lv_at hl 2 rfl) ?_
    refine lv_if_eq (tgt := 36) hx hb dX12_best_27 (by decide) (fun c2 => ?_) (fun c2 => ?_)
    · have hrun := oz_t hrun c2
      refine lv_iconst (v := 0) hx hb dX12_best_36 (by decide) ?_
      refine lv_goto (tgt := 41) hx hb dX12_best_37 (by decide) ?_
      refine lv_istore (lv' := [(5, .int 0), (4, .int 100000000), (3, .int (-1)), (2, .int (v_town (Int32.toNatClampNeg 2))), (0, .ref q_this), (1, .int a1)]) hx hb dX12_best_41 hl (by decide) rfl (fun ls hl => ?_)
      refine lv_iconst (v := 0) hx hb dX12_best_43 (by decide) ?_
      refine lv_istore (lv' := [(6, .int 0), (5, .int 0), (4, .int 100000000), (3, .int (-1)), (2, .int (v_town (Int32.toNatClampNeg 2))), (0, .ref q_this), (1, .int a1)]) hx hb dX12_best_44 hl (by decide) rfl (fun ls hl => ?_)
      obtain ⟨o46, hlp46, hrun⟩ := oz_bind hrun
      have hL46 : ∀ (k46_0 : Int32) (n : Nat) (w46 : Int32 × Int32) (o46 : Int32 × Int32), oz_loop (fX12_best_b46 k46_0) n w46 = some o46 → (∀ (H : Heap) (locs : List Loc) (ls : Array Slot), va_P (dC, dI) vwCl [(q_this, .inr (12, [.ref q_town, .ref q_read, .ref q_now, .ref q_aside, .ref q_past, .int v_undos, .ref q_images, .ref q_kept, .long v_seed, .ref q_text, .int v_size, .int v_fault, .ref q_sights, .int v_sightMany, .ref q_book, .int v_bookMany, .int v_at, .int v_begin, .int v_sign, .int v_figures, .int v_value, .int v_wrong, .ref q_went, .ref q_free, .ref q_stands])), (q_town, .inl (cI, 27, .inl v_town)), (q_now, .inl (cI, 19, .inl v_now)), (q_stands, .inl (cI, 8, .inl v_stands))] H → va_D A [(q_this, .inr (12, [.ref q_town, .ref q_read, .ref q_now, .ref q_aside, .ref q_past, .int v_undos, .ref q_images, .ref q_kept, .long v_seed, .ref q_text, .int v_size, .int v_fault, .ref q_sights, .int v_sightMany, .ref q_book, .int v_bookMany, .int v_at, .int v_begin, .int v_sign, .int v_figures, .int v_value, .int v_wrong, .ref q_went, .ref q_free, .ref q_stands])), (q_town, .inl (cI, 27, .inl v_town)), (q_now, .inl (cI, 19, .inl v_now)), (q_stands, .inl (cI, 8, .inl v_stands))] → va_S A s.heap H locs → lv_has ls 11 [(6, .int o46.1), (5, .int o46.2), (4, .int 100000000), (3, .int (-1)), (2, .int k46_0), (0, .ref q_this), (1, .int a1)] → W p l e (headSpec wsX12_best rmX12_best).room s m (([.ref q_this, .int a1] : List Value).toArray) below meth c H locs 0 0 Q (F0 m 64 ls [])) → ∀ (H : Heap) (locs : List Loc) (ls : Array Slot), va_P (dC, dI) vwCl [(q_this, .inr (12, [.ref q_town, .ref q_read, .ref q_now, .ref q_aside, .ref q_past, .int v_undos, .ref q_images, .ref q_kept, .long v_seed, .ref q_text, .int v_size, .int v_fault, .ref q_sights, .int v_sightMany, .ref q_book, .int v_bookMany, .int v_at, .int v_begin, .int v_sign, .int v_figures, .int v_value, .int v_wrong, .ref q_went, .ref q_free, .ref q_stands])), (q_town, .inl (cI, 27, .inl v_town)), (q_now, .inl (cI, 19, .inl v_now)), (q_stands, .inl (cI, 8, .inl v_stands))] H → va_D A [(q_this, .inr (12, [.ref q_town, .ref q_read, .ref q_now, .ref q_aside, .ref q_past, .int v_undos, .ref q_images, .ref q_kept, .long v_seed, .ref q_text, .int v_size, .int v_fault, .ref q_sights, .int v_sightMany, .ref q_book, .int v_bookMany, .int v_at, .int v_begin, .int v_sign, .int v_figures, .int v_value, .int v_wrong, .ref q_went, .ref q_free, .ref q_stands])), (q_town, .inl (cI, 27, .inl v_town)), (q_now, .inl (cI, 19, .inl v_now)), (q_stands, .inl (cI, 8, .inl v_stands))] → va_S A s.heap H locs → lv_has ls 11 [(6, .int w46.1), (5, .int w46.2), (4, .int 100000000), (3, .int (-1)), (2, .int k46_0), (0, .ref q_this), (1, .int a1)] → W p l e (headSpec wsX12_best rmX12_best).room s m (([.ref q_this, .int a1] : List Value).toArray) below meth c H locs 0 0 Q (F0 m 46 ls []) := by
        intro k46_0 n
        induction n with
        | zero => intro w46 o46 h9; exact (oz_zero h9).elim
        | succ n ih =>
          intro w46 o46 h9 hexit H locs ls hP hD hS hl
          obtain ⟨r9, hrun, hnext⟩ := oz_step h9
          unfold fX12_best_b46 at hrun
          refine lv_iload hx hb dX12_best_46 (lv_at hl 0 rfl) ?_
          refine lv_iload_n hx hb dX12_best_48 rfl (lv_at hl 4 rfl) ?_
          refine lv_icmp_ge (tgt := 64) hx hb dX12_best_49 (by decide) (fun c3 => ?_) (fun c3 => ?_)
          · have hrun := oz_t hrun c3
            have hr9 := Option.some.inj hrun
            subst hr9
            have ho9 : (w46.1, w46.2) = o46 := hnext
            subst ho9
            exact hexit _ _ _ (hP.sub [0, 1, 2, 3] rfl) (hD.sub [0, 1, 2, 3] (by decide) rfl) hS (lv_sub hl [0, 1, 2, 3, 4, 5, 6] rfl)
          · have hrun := oz_f hrun c3
            refine lv_iload hx hb dX12_best_52 (lv_at hl 1 rfl) ?_
            refine lv_iload_n hx hb dX12_best_54 rfl (lv_at hl 4 rfl) ?_
            refine lv_imul hx hb dX12_best_55 ?_
            refine lv_istore (lv' := [(5, .int (w46.2 * k46_0)), (6, .int w46.1), (4, .int 100000000), (3, .int (-1)), (2, .int k46_0), (0, .ref q_this), (1, .int a1)]) hx hb dX12_best_56 hl (by decide) rfl (fun ls hl => ?_)
            refine lv_iinc (v := (w46.1 + 1)) (lv' := [(6, .int (w46.1 + 1)), (5, .int (w46.2 * k46_0)), (4, .int 100000000), (3, .int (-1)), (2, .int k46_0), (0, .ref q_this), (1, .int a1)]) hx hb dX12_best_58 hl (k := 1) rfl rfl (by decide) rfl (fun ls hl => ?_)
            refine lv_goto (tgt := 46) hx hb dX12_best_61 (by decide) ?_
            have hr9 := Option.some.inj hrun
            subst hr9
            exact ih ((w46.1 + 1), (w46.2 * k46_0)) _ hnext hexit _ _ _ (hP.sub [0, 1, 2, 3] rfl) (hD.sub [0, 1, 2, 3] (by decide) rfl) hS (lv_sub hl [0, 1, 2, 3, 4, 5, 6] rfl)
      refine hL46 (v_town (Int32.toNatClampNeg 2)) oz_fuel (0, 0) o46 hlp46 (fun H locs ls hP hD hS hl => ?_) _ _ _ (hP.sub [0, 1, 2, 3] rfl) (hD.sub [0, 1, 2, 3] (by decide) rfl) hS (lv_sub hl [0, 1, 2, 3, 4, 5, 6] rfl)
      have hP : va_P (dC, dI) vwCl [(q_this, .inr (12, [.ref q_town, .ref q_read, .ref q_now, .ref q_aside, .ref q_past, .int v_undos, .ref q_images, .ref q_kept, .long v_seed, .ref q_text, .int v_size, .int v_fault, .ref q_sights, .int v_sightMany, .ref q_book, .int v_bookMany, .int v_at, .int v_begin, .int v_sign, .int v_figures, .int v_value, .int v_wrong, .ref q_went, .ref q_free, .ref q_stands])), (q_town, .inl (cI, 27, .inl v_town)), (q_now, .inl (cI, 19, .inl v_now)), (q_stands, .inl (cI, 8, .inl v_stands))] H := hP
      have hD : va_D A [(q_this, .inr (12, [.ref q_town, .ref q_read, .ref q_now, .ref q_aside, .ref q_past, .int v_undos, .ref q_images, .ref q_kept, .long v_seed, .ref q_text, .int v_size, .int v_fault, .ref q_sights, .int v_sightMany, .ref q_book, .int v_bookMany, .int v_at, .int v_begin, .int v_sign, .int v_figures, .int v_value, .int v_wrong, .ref q_went, .ref q_free, .ref q_stands])), (q_town, .inl (cI, 27, .inl v_town)), (q_now, .inl (cI, 19, .inl v_now)), (q_stands, .inl (cI, 8, .inl v_stands))] := hD
      have hl : lv_has ls 11 [(6, .int o46.1), (5, .int o46.2), (4, .int 100000000), (3, .int (-1)), (2, .int (v_town (Int32.toNatClampNeg 2))), (0, .ref q_this), (1, .int a1)] := hl
      refine lv_iconst (v := 0) hx hb dX12_best_64 (by decide) ?_
      refine lv_istore (lv' := [(6, .int 0), (5, .int o46.2), (4, .int 100000000), (3, .int (-1)), (2, .int (v_town (Int32.toNatClampNeg 2))), (0, .ref q_this), (1, .int a1)]) hx hb dX12_best_65 hl (by decide) rfl (fun ls hl => ?_)
      obtain ⟨o67, hlp67, hrun⟩ := oz_bind hrun
      have hL67 : ∀ (k67_0 : Int32) (n : Nat) (w67 : Int32 × Int32 × Int32 × (Nat → Int32)) (o67 : Int32 × Int32 × Int32 × (Nat → Int32)), oz_loop (fX12_best_b67 v_town v_now k67_0 o46) n w67 = some o67 → (∀ (H : Heap) (locs : List Loc) (ls : Array Slot), va_P (dC, dI) vwCl [(q_this, .inr (12, [.ref q_town, .ref q_read, .ref q_now, .ref q_aside, .ref q_past, .int v_undos, .ref q_images, .ref q_kept, .long v_seed, .ref q_text, .int v_size, .int v_fault, .ref q_sights, .int v_sightMany, .ref q_book, .int v_bookMany, .int v_at, .int v_begin, .int v_sign, .int v_figures, .int v_value, .int v_wrong, .ref q_went, .ref q_free, .ref q_stands])), (q_town, .inl (cI, 27, .inl v_town)), (q_now, .inl (cI, 19, .inl v_now)), (q_stands, .inl (cI, 8, .inl o67.2.2.2))] H → va_D A [(q_this, .inr (12, [.ref q_town, .ref q_read, .ref q_now, .ref q_aside, .ref q_past, .int v_undos, .ref q_images, .ref q_kept, .long v_seed, .ref q_text, .int v_size, .int v_fault, .ref q_sights, .int v_sightMany, .ref q_book, .int v_bookMany, .int v_at, .int v_begin, .int v_sign, .int v_figures, .int v_value, .int v_wrong, .ref q_went, .ref q_free, .ref q_stands])), (q_town, .inl (cI, 27, .inl v_town)), (q_now, .inl (cI, 19, .inl v_now)), (q_stands, .inl (cI, 8, .inl o67.2.2.2))] → va_S A s.heap H locs → lv_has ls 11 [(6, .int o67.1), (5, .int o46.2), (4, .int o67.2.1), (3, .int o67.2.2.1), (2, .int k67_0), (0, .ref q_this), (1, .int a1)] → W p l e (headSpec wsX12_best rmX12_best).room s m (([.ref q_this, .int a1] : List Value).toArray) below meth c H locs 0 0 Q (F0 m 179 ls [])) → ∀ (H : Heap) (locs : List Loc) (ls : Array Slot), va_P (dC, dI) vwCl [(q_this, .inr (12, [.ref q_town, .ref q_read, .ref q_now, .ref q_aside, .ref q_past, .int v_undos, .ref q_images, .ref q_kept, .long v_seed, .ref q_text, .int v_size, .int v_fault, .ref q_sights, .int v_sightMany, .ref q_book, .int v_bookMany, .int v_at, .int v_begin, .int v_sign, .int v_figures, .int v_value, .int v_wrong, .ref q_went, .ref q_free, .ref q_stands])), (q_town, .inl (cI, 27, .inl v_town)), (q_now, .inl (cI, 19, .inl v_now)), (q_stands, .inl (cI, 8, .inl w67.2.2.2))] H → va_D A [(q_this, .inr (12, [.ref q_town, .ref q_read, .ref q_now, .ref q_aside, .ref q_past, .int v_undos, .ref q_images, .ref q_kept, .long v_seed, .ref q_text, .int v_size, .int v_fault, .ref q_sights, .int v_sightMany, .ref q_book, .int v_bookMany, .int v_at, .int v_begin, .int v_sign, .int v_figures, .int v_value, .int v_wrong, .ref q_went, .ref q_free, .ref q_stands])), (q_town, .inl (cI, 27, .inl v_town)), (q_now, .inl (cI, 19, .inl v_now)), (q_stands, .inl (cI, 8, .inl w67.2.2.2))] → va_S A s.heap H locs → lv_has ls 11 [(6, .int w67.1), (5, .int o46.2), (4, .int w67.2.1), (3, .int w67.2.2.1), (2, .int k67_0), (0, .ref q_this), (1, .int a1)] → W p l e (headSpec wsX12_best rmX12_best).room s m (([.ref q_this, .int a1] : List Value).toArray) below meth c H locs 0 0 Q (F0 m 67 ls []) := by
        intro k67_0 n
        induction n with
        | zero => intro w67 o67 h9; exact (oz_zero h9).elim
        | succ n ih =>
          intro w67 o67 h9 hexit H locs ls hP hD hS hl
          obtain ⟨r9, hrun, hnext⟩ := oz_step h9
          unfold fX12_best_b67 at hrun
          refine lv_iload hx hb dX12_best_67 (lv_at hl 0 rfl) ?_
          refine lv_iload hx hb dX12_best_69 (lv_at hl 1 rfl) ?_
          refine lv_icmp_ge (tgt := 179) hx hb dX12_best_71 (by decide) (fun c4 => ?_) (fun c4 => ?_)
          · have hrun := oz_t hrun c4
            have hr9 := Option.some.inj hrun
            subst hr9
            have ho9 : (w67.1, w67.2.1, w67.2.2.1, w67.2.2.2) = o67 := hnext
            subst ho9
            exact hexit _ _ _ (hP.sub [0, 1, 2, 3] rfl) (hD.sub [0, 1, 2, 3] (by decide) rfl) hS (lv_sub hl [0, 1, 2, 3, 4, 5, 6] rfl)
          · have hrun := oz_f hrun c4
            refine lv_iconst (v := 0) hx hb dX12_best_74 (by decide) ?_
            refine lv_istore (lv' := [(7, .int 0), (6, .int w67.1), (5, .int o46.2), (4, .int w67.2.1), (3, .int w67.2.2.1), (2, .int k67_0), (0, .ref q_this), (1, .int a1)]) hx hb dX12_best_75 hl (by decide) rfl (fun ls hl => ?_)
            refine lv_iload hx hb dX12_best_77 (lv_at hl 1 rfl) ?_
            refine lv_istore (lv' := [(8, .int w67.1), (7, .int 0), (6, .int w67.1), (5, .int o46.2), (4, .int w67.2.1), (3, .int w67.2.2.1), (2, .int k67_0), (0, .ref q_this), (1, .int a1)]) hx hb dX12_best_79 hl (by decide) rfl (fun ls hl => ?_)
            refine lv_iconst (v := 1) hx hb dX12_best_81 (by decide) ?_
            refine lv_istore (lv' := [(9, .int 1), (8, .int w67.1), (7, .int 0), (6, .int w67.1), (5, .int o46.2), (4, .int w67.2.1), (3, .int w67.2.2.1), (2, .int k67_0), (0, .ref q_this), (1, .int a1)]) hx hb dX12_best_82 hl (by decide) rfl (fun ls hl => ?_)
            refine lv_iconst (v := 0) hx hb dX12_best_84 (by decide) ?_
            refine lv_istore (lv' := [(10, .int 0), (9, .int 1), (8, .int w67.1), (7, .int 0), (6, .int w67.1), (5, .int o46.2), (4, .int w67.2.1), (3, .int w67.2.2.1), (2, .int k67_0), (0, .ref q_this), (1, .int a1)]) hx hb dX12_best_85 hl (by decide) rfl (fun ls hl => ?_)
            obtain ⟨o87, hlp87, hrun⟩ := oz_bind hrun
            have hL87 : ∀ (n : Nat) (w87 : Int32 × Int32 × Int32 × Int32) (o87 : Int32 × Int32 × Int32 × Int32), oz_loop (fX12_best_b87 k67_0) n w87 = some o87 → (∀ (H : Heap) (locs : List Loc) (ls : Array Slot), va_P (dC, dI) vwCl [(q_this, .inr (12, [.ref q_town, .ref q_read, .ref q_now, .ref q_aside, .ref q_past, .int v_undos, .ref q_images, .ref q_kept, .long v_seed, .ref q_text, .int v_size, .int v_fault, .ref q_sights, .int v_sightMany, .ref q_book, .int v_bookMany, .int v_at, .int v_begin, .int v_sign, .int v_figures, .int v_value, .int v_wrong, .ref q_went, .ref q_free, .ref q_stands])), (q_town, .inl (cI, 27, .inl v_town)), (q_now, .inl (cI, 19, .inl v_now)), (q_stands, .inl (cI, 8, .inl w67.2.2.2))] H → va_D A [(q_this, .inr (12, [.ref q_town, .ref q_read, .ref q_now, .ref q_aside, .ref q_past, .int v_undos, .ref q_images, .ref q_kept, .long v_seed, .ref q_text, .int v_size, .int v_fault, .ref q_sights, .int v_sightMany, .ref q_book, .int v_bookMany, .int v_at, .int v_begin, .int v_sign, .int v_figures, .int v_value, .int v_wrong, .ref q_went, .ref q_free, .ref q_stands])), (q_town, .inl (cI, 27, .inl v_town)), (q_now, .inl (cI, 19, .inl v_now)), (q_stands, .inl (cI, 8, .inl w67.2.2.2))] → va_S A s.heap H locs → lv_has ls 11 [(10, .int o87.1), (9, .int o87.2.1), (8, .int o87.2.2.1), (7, .int o87.2.2.2), (6, .int w67.1), (5, .int o46.2), (4, .int w67.2.1), (3, .int w67.2.2.1), (2, .int k67_0), (0, .ref q_this), (1, .int a1)] → W p l e (headSpec wsX12_best rmX12_best).room s m (([.ref q_this, .int a1] : List Value).toArray) below meth c H locs 0 0 Q (F0 m 126 ls [])) → ∀ (H : Heap) (locs : List Loc) (ls : Array Slot), va_P (dC, dI) vwCl [(q_this, .inr (12, [.ref q_town, .ref q_read, .ref q_now, .ref q_aside, .ref q_past, .int v_undos, .ref q_images, .ref q_kept, .long v_seed, .ref q_text, .int v_size, .int v_fault, .ref q_sights, .int v_sightMany, .ref q_book, .int v_bookMany, .int v_at, .int v_begin, .int v_sign, .int v_figures, .int v_value, .int v_wrong, .ref q_went, .ref q_free, .ref q_stands])), (q_town, .inl (cI, 27, .inl v_town)), (q_now, .inl (cI, 19, .inl v_now)), (q_stands, .inl (cI, 8, .inl w67.2.2.2))] H → va_D A [(q_this, .inr (12, [.ref q_town, .ref q_read, .ref q_now, .ref q_aside, .ref q_past, .int v_undos, .ref q_images, .ref q_kept, .long v_seed, .ref q_text, .int v_size, .int v_fault, .ref q_sights, .int v_sightMany, .ref q_book, .int v_bookMany, .int v_at, .int v_begin, .int v_sign, .int v_figures, .int v_value, .int v_wrong, .ref q_went, .ref q_free, .ref q_stands])), (q_town, .inl (cI, 27, .inl v_town)), (q_now, .inl (cI, 19, .inl v_now)), (q_stands, .inl (cI, 8, .inl w67.2.2.2))] → va_S A s.heap H locs → lv_has ls 11 [(10, .int w87.1), (9, .int w87.2.1), (8, .int w87.2.2.1), (7, .int w87.2.2.2), (6, .int w67.1), (5, .int o46.2), (4, .int w67.2.1), (3, .int w67.2.2.1), (2, .int k67_0), (0, .ref q_this), (1, .int a1)] → W p l e (headSpec wsX12_best rmX12_best).room s m (([.ref q_this, .int a1] : List Value).toArray) below meth c H locs 0 0 Q (F0 m 87 ls []) := by
              intro n
              induction n with
              | zero => intro w87 o87 h9; exact (oz_zero h9).elim
              | succ n ih =>
                intro w87 o87 h9 hexit H locs ls hP hD hS hl
                obtain ⟨r9, hrun, hnext⟩ := oz_step h9
                unfold fX12_best_b87 at hrun
                refine lv_iload hx hb dX12_best_87 (lv_at hl 0 rfl) ?_
                refine lv_iload_n hx hb dX12_best_89 rfl (lv_at hl 8 rfl) ?_
                refine lv_icmp_ge (tgt := 126) hx hb dX12_best_90 (by decide) (fun c5 => ?_) (fun c5 => ?_)
                · have hrun := oz_t hrun c5
                  have hr9 := Option.some.inj hrun
                  subst hr9
                  have ho9 : (w87.1, w87.2.1, w87.2.2.1, w87.2.2.2) = o87 := hnext
                  subst ho9
                  exact hexit _ _ _ (hP.sub [0, 1, 2, 3] rfl) (hD.sub [0, 1, 2, 3] (by decide) rfl) hS (lv_sub hl [0, 1, 2, 3, 4, 5, 6, 7, 8, 9, 10] rfl)
                · have hrun := oz_f hrun c5
                  refine lv_iload hx hb dX12_best_93 (lv_at hl 3 rfl) ?_
                  refine lv_iload hx hb dX12_best_95 (lv_at hl 1 rfl) ?_
                  refine lv_iload hx hb dX12_best_97 (lv_at hl 2 rfl) ?_
                  refine lv_iload_n hx hb dX12_best_99 rfl (lv_at hl 8 rfl) ?_
                  obtain ⟨c6, hrun⟩ := oz_chk hrun
                  refine lv_irem hx hb dX12_best_100 c6 ?_
                  refine lv_iconst (v := 1) hx hb dX12_best_101 (by decide) ?_
                  refine lv_iadd hx hb dX12_best_102 ?_
                  refine lv_imul hx hb dX12_best_103 ?_
                  refine lv_iadd hx hb dX12_best_104 ?_
                  refine lv_istore (lv' := [(7, .int (w87.2.2.2 + (w87.2.1 * ((w87.2.2.1 - w87.2.2.1 / k67_0 * k67_0) + 1)))), (10, .int w87.1), (9, .int w87.2.1), (8, .int w87.2.2.1), (6, .int w67.1), (5, .int o46.2), (4, .int w67.2.1), (3, .int w67.2.2.1), (2, .int k67_0), (0, .ref q_this), (1, .int a1)]) hx hb dX12_best_105 hl (by decide) rfl (fun ls hl => ?_)
                  refine lv_iload hx hb dX12_best_107 (lv_at hl 3 rfl) ?_
                  refine lv_iload_n hx hb dX12_best_109 rfl (lv_at hl 8 rfl) ?_
                  obtain ⟨c7, hrun⟩ := oz_chk hrun
                  refine lv_idiv hx hb dX12_best_110 c7 ?_
                  refine lv_istore (lv' := [(8, .int (w87.2.2.1 / k67_0)), (7, .int (w87.2.2.2 + (w87.2.1 * ((w87.2.2.1 - w87.2.2.1 / k67_0 * k67_0) + 1)))), (10, .int w87.1), (9, .int w87.2.1), (6, .int w67.1), (5, .int o46.2), (4, .int w67.2.1), (3, .int w67.2.2.1), (2, .int k67_0), (0, .ref q_this), (1, .int a1)]) hx hb dX12_best_111 hl (by decide) rfl (fun ls hl => ?_)
                  refine lv_iload hx hb dX12_best_113 (lv_at hl 3 rfl) ?_
                  refine lv_bipush (v := 10) hx hb dX12_best_115 (by decide) ?_
                  refine lv_imul hx hb dX12_best_117 ?_
                  refine lv_istore (lv' := [(9, .int (w87.2.1 * 10)), (8, .int (w87.2.2.1 / k67_0)), (7, .int (w87.2.2.2 + (w87.2.1 * ((w87.2.2.1 - w87.2.2.1 / k67_0 * k67_0) + 1)))), (10, .int w87.1), (6, .int w67.1), (5, .int o46.2), (4, .int w67.2.1), (3, .int w67.2.2.1), (2, .int k67_0), (0, .ref q_this), (1, .int a1)]) hx hb dX12_best_118 hl (by decide) rfl (fun ls hl => ?_)
                  refine lv_iinc (v := (w87.1 + 1)) (lv' := [(10, .int (w87.1 + 1)), (9, .int (w87.2.1 * 10)), (8, .int (w87.2.2.1 / k67_0)), (7, .int (w87.2.2.2 + (w87.2.1 * ((w87.2.2.1 - w87.2.2.1 / k67_0 * k67_0) + 1)))), (6, .int w67.1), (5, .int o46.2), (4, .int w67.2.1), (3, .int w67.2.2.1), (2, .int k67_0), (0, .ref q_this), (1, .int a1)]) hx hb dX12_best_120 hl (k := 3) rfl rfl (by decide) rfl (fun ls hl => ?_)
                  refine lv_goto (tgt := 87) hx hb dX12_best_123 (by decide) ?_
                  have hr9 := Option.some.inj hrun
                  subst hr9
                  exact ih ((w87.1 + 1), (w87.2.1 * 10), (w87.2.2.1 / k67_0), (w87.2.2.2 + (w87.2.1 * ((w87.2.2.1 - w87.2.2.1 / k67_0 * k67_0) + 1)))) _ hnext hexit _ _ _ (hP.sub [0, 1, 2, 3] rfl) (hD.sub [0, 1, 2, 3] (by decide) rfl) hS (lv_sub hl [0, 1, 2, 3, 4, 5, 6, 7, 8, 9, 10] rfl)
            refine hL87 oz_fuel (0, 1, w67.1, 0) o87 hlp87 (fun H locs ls hP hD hS hl => ?_) _ _ _ (hP.sub [0, 1, 2, 3] rfl) (hD.sub [0, 1, 2, 3] (by decide) rfl) hS (lv_sub hl [0, 1, 2, 3, 4, 5, 6, 7, 8, 9, 10] rfl)
            have hP : va_P (dC, dI) vwCl [(q_this, .inr (12, [.ref q_town, .ref q_read, .ref q_now, .ref q_aside, .ref q_past, .int v_undos, .ref q_images, .ref q_kept, .long v_seed, .ref q_text, .int v_size, .int v_fault, .ref q_sights, .int v_sightMany, .ref q_book, .int v_bookMany, .int v_at, .int v_begin, .int v_sign, .int v_figures, .int v_value, .int v_wrong, .ref q_went, .ref q_free, .ref q_stands])), (q_town, .inl (cI, 27, .inl v_town)), (q_now, .inl (cI, 19, .inl v_now)), (q_stands, .inl (cI, 8, .inl w67.2.2.2))] H := hP
            have hD : va_D A [(q_this, .inr (12, [.ref q_town, .ref q_read, .ref q_now, .ref q_aside, .ref q_past, .int v_undos, .ref q_images, .ref q_kept, .long v_seed, .ref q_text, .int v_size, .int v_fault, .ref q_sights, .int v_sightMany, .ref q_book, .int v_bookMany, .int v_at, .int v_begin, .int v_sign, .int v_figures, .int v_value, .int v_wrong, .ref q_went, .ref q_free, .ref q_stands])), (q_town, .inl (cI, 27, .inl v_town)), (q_now, .inl (cI, 19, .inl v_now)), (q_stands, .inl (cI, 8, .inl w67.2.2.2))] := hD
            have hl : lv_has ls 11 [(10, .int o87.1), (9, .int o87.2.1), (8, .int o87.2.2.1), (7, .int o87.2.2.2), (6, .int w67.1), (5, .int o46.2), (4, .int w67.2.1), (3, .int w67.2.2.1), (2, .int k67_0), (0, .ref q_this), (1, .int a1)] := hl
            refine lv_aload_n hx hb dX12_best_126 rfl (lv_at hl 9 rfl) ?_
            refine lv_iload hx hb dX12_best_127 (lv_at hl 3 rfl) ?_
            obtain ⟨y129, hc129, hrun⟩ := oz_bind hrun
            have hPc := hP.sub (ws' := [(q_this, .inr (12, [.ref q_town, .ref q_read, .ref q_now, .ref q_aside, .ref q_past, .int v_undos, .ref q_images, .ref q_kept, .long v_seed, .ref q_text, .int v_size, .int v_fault, .ref q_sights, .int v_sightMany, .ref q_book, .int v_bookMany, .int v_at, .int v_begin, .int v_sign, .int v_figures, .int v_value, .int v_wrong, .ref q_went, .ref q_free, .ref q_stands])), (q_town, .inl (cI, 27, .inl v_town))]) [0, 1] rfl
            have hDc := hD.sub (ws' := [(q_this, .inr (12, [.ref q_town, .ref q_read, .ref q_now, .ref q_aside, .ref q_past, .int v_undos, .ref q_images, .ref q_kept, .long v_seed, .ref q_text, .int v_size, .int v_fault, .ref q_sights, .int v_sightMany, .ref q_book, .int v_bookMany, .int v_at, .int v_begin, .int v_sign, .int v_figures, .int v_value, .int v_wrong, .ref q_went, .ref q_free, .ref q_stands])), (q_town, .inl (cI, 27, .inl v_town))]) [0, 1] (by decide) rfl
            have hFc := va_free (wc := [(q_this, .inr (12, [.ref q_town, .ref q_read, .ref q_now, .ref q_aside, .ref q_past, .int v_undos, .ref q_images, .ref q_kept, .long v_seed, .ref q_text, .int v_size, .int v_fault, .ref q_sights, .int v_sightMany, .ref q_book, .int v_bookMany, .int v_at, .int v_begin, .int v_sign, .int v_figures, .int v_value, .int v_wrong, .ref q_went, .ref q_free, .ref q_stands])), (q_town, .inl (cI, 27, .inl v_town))]) hD hS hA [0, 1] rfl
            refine va_calli (va_runV (As := [.int o87.2.2.2]) (rest := []) ⟨hx, hb, hml, hown, hts⟩ (tX12_isOrder l dC dI cI cZ q_aside q_book q_free q_images q_kept q_now q_past q_read q_sights q_stands q_text q_this q_town q_went H.size v_undos v_seed v_size v_fault v_sightMany v_bookMany v_at v_begin v_sign v_figures v_value v_wrong v_town o87.2.2.2 y129 hc129) (cwV 1 hts gX12_best_X12_isOrder rfl rfl rfl (by decide +kernel) ⟨Nat.le_of_ble_eq_true rfl, Nat.le_of_ble_eq_true rfl⟩) ⟨fun a U g mk q => by obtain ⟨q0, q1, qP, qK, qD⟩ := q; exact ⟨q0, q1, qP, va_K.moved (u := U) (U := U.calling g mk a) (Vm.Alike.refl U.vm) qK, qD⟩, va_recv hK hPc (ci := 12) (q0 := 0) rfl rfl, fun U hU hW => ⟨rfl, by rw [hU], by rw [hU]; exact hPc, va_K.moved hW.alike hK, hDc.weaken (fun _ _ _ _ => trivial)⟩⟩ rfl rfl hl.1 rfl (lv_room (Nat.le_of_ble_eq_true rfl)) dX12_best_129 ⟨Nat.le_of_ble_eq_true rfl, Nat.le_of_ble_eq_true rfl⟩) hS (fun q _ h => hFc q h) hFc (fun r129 u9 t9 H1 locs ht9 hvm9 hw9 hB9 hz9 hkk9 hS => ?_)
            have hw9 : y129 = r129 := hw9.symm
            subst hw9
            obtain ⟨hP9, hK9, hD9⟩ := hB9
            rw [ht9] at hP9
            obtain ⟨hP, hD⟩ := va_join (wr := [(q_now, .inl (cI, 19, .inl v_now)), (q_stands, .inl (cI, 8, .inl w67.2.2.2))]) (w1 := [(q_this, .inr (12, [.ref q_town, .ref q_read, .ref q_now, .ref q_aside, .ref q_past, .int v_undos, .ref q_images, .ref q_kept, .long v_seed, .ref q_text, .int v_size, .int v_fault, .ref q_sights, .int v_sightMany, .ref q_book, .int v_bookMany, .int v_at, .int v_begin, .int v_sign, .int v_figures, .int v_value, .int v_wrong, .ref q_went, .ref q_free, .ref q_stands])), (q_town, .inl (cI, 27, .inl v_town))]) hP hD [0, 1] [2, 3] rfl rfl (by decide) (by decide) hkk9 hFc hP9 hD9
            generalize H1 = H at hP hS ⊢
            have hP : va_P (dC, dI) vwCl [(q_now, .inl (cI, 19, .inl v_now)), (q_stands, .inl (cI, 8, .inl w67.2.2.2)), (q_this, .inr (12, [.ref q_town, .ref q_read, .ref q_now, .ref q_aside, .ref q_past, .int v_undos, .ref q_images, .ref q_kept, .long v_seed, .ref q_text, .int v_size, .int v_fault, .ref q_sights, .int v_sightMany, .ref q_book, .int v_bookMany, .int v_at, .int v_begin, .int v_sign, .int v_figures, .int v_value, .int v_wrong, .ref q_went, .ref q_free, .ref q_stands])), (q_town, .inl (cI, 27, .inl v_town))] H := hP
            have hD : va_D A [(q_now, .inl (cI, 19, .inl v_now)), (q_stands, .inl (cI, 8, .inl w67.2.2.2)), (q_this, .inr (12, [.ref q_town, .ref q_read, .ref q_now, .ref q_aside, .ref q_past, .int v_undos, .ref q_images, .ref q_kept, .long v_seed, .ref q_text, .int v_size, .int v_fault, .ref q_sights, .int v_sightMany, .ref q_book, .int v_bookMany, .int v_at, .int v_begin, .int v_sign, .int v_figures, .int v_value, .int v_wrong, .ref q_went, .ref q_free, .ref q_stands])), (q_town, .inl (cI, 27, .inl v_town))] := hD
            refine lv_if_eq (tgt := 173) hx hb dX12_best_132 (by decide) (fun c8 => ?_) (fun c8 => ?_)
            · have hrun := oz_t hrun c8
              refine lv_iinc (v := (w67.1 + 1)) (lv' := [(6, .int (w67.1 + 1)), (10, .int o87.1), (9, .int o87.2.1), (8, .int o87.2.2.1), (7, .int o87.2.2.2), (5, .int o46.2), (4, .int w67.2.1), (3, .int w67.2.2.1), (2, .int k67_0), (0, .ref q_this), (1, .int a1)]) hx hb dX12_best_173 hl (k := 4) rfl rfl (by decide) rfl (fun ls hl => ?_)
              refine lv_goto (tgt := 67) hx hb dX12_best_176 (by decide) ?_
              have hr9 := Option.some.inj hrun
              subst hr9
              exact ih ((w67.1 + 1), w67.2.1, w67.2.2.1, w67.2.2.2) _ hnext hexit _ _ _ (hP.sub [2, 3, 0, 1] rfl) (hD.sub [2, 3, 0, 1] (by decide) rfl) hS (lv_sub hl [0, 5, 6, 7, 8, 9, 10] rfl)
            · have hrun := oz_f hrun c8
              refine lv_aload_n hx hb dX12_best_135 rfl (lv_at hl 9 rfl) ?_
              refine lv_iload hx hb dX12_best_136 (lv_at hl 3 rfl) ?_
              obtain ⟨y138, hc138, hrun⟩ := oz_bind hrun
              have hPc := hP.sub (ws' := [(q_this, .inr (12, [.ref q_town, .ref q_read, .ref q_now, .ref q_aside, .ref q_past, .int v_undos, .ref q_images, .ref q_kept, .long v_seed, .ref q_text, .int v_size, .int v_fault, .ref q_sights, .int v_sightMany, .ref q_book, .int v_bookMany, .int v_at, .int v_begin, .int v_sign, .int v_figures, .int v_value, .int v_wrong, .ref q_went, .ref q_free, .ref q_stands])), (q_town, .inl (cI, 27, .inl v_town)), (q_now, .inl (cI, 19, .inl v_now)), (q_stands, .inl (cI, 8, .inl w67.2.2.2))]) [2, 3, 0, 1] rfl
              have hDc := hD.sub (ws' := [(q_this, .inr (12, [.ref q_town, .ref q_read, .ref q_now, .ref q_aside, .ref q_past, .int v_undos, .ref q_images, .ref q_kept, .long v_seed, .ref q_text, .int v_size, .int v_fault, .ref q_sights, .int v_sightMany, .ref q_book, .int v_bookMany, .int v_at, .int v_begin, .int v_sign, .int v_figures, .int v_value, .int v_wrong, .ref q_went, .ref q_free, .ref q_stands])), (q_town, .inl (cI, 27, .inl v_town)), (q_now, .inl (cI, 19, .inl v_now)), (q_stands, .inl (cI, 8, .inl w67.2.2.2))]) [2, 3, 0, 1] (by decide) rfl
              have hFc := va_free (wc := [(q_this, .inr (12, [.ref q_town, .ref q_read, .ref q_now, .ref q_aside, .ref q_past, .int v_undos, .ref q_images, .ref q_kept, .long v_seed, .ref q_text, .int v_size, .int v_fault, .ref q_sights, .int v_sightMany, .ref q_book, .int v_bookMany, .int v_at, .int v_begin, .int v_sign, .int v_figures, .int v_value, .int v_wrong, .ref q_went, .ref q_free, .ref q_stands])), (q_town, .inl (cI, 27, .inl v_town)), (q_now, .inl (cI, 19, .inl v_now)), (q_stands, .inl (cI, 8, .inl w67.2.2.2))]) hD hS hA [2, 3, 0, 1] rfl
              refine va_calli (va_runV (As := [.int o87.2.2.2]) (rest := []) ⟨hx, hb, hml, hown, hts⟩ (tX12_pulledBy l dC dI cI cZ q_aside q_book q_free q_images q_kept q_now q_past q_read q_sights q_stands q_text q_this q_town q_went H.size v_undos v_seed v_size v_fault v_sightMany v_bookMany v_at v_begin v_sign v_figures v_value v_wrong v_town v_now w67.2.2.2 o87.2.2.2 y138 hc138) (cwV 1 hts gX12_best_X12_pulledBy rfl rfl rfl (by decide +kernel) ⟨Nat.le_of_ble_eq_true rfl, Nat.le_of_ble_eq_true rfl⟩) ⟨fun a U g mk q => by obtain ⟨q0, q1, qP, qK, qD⟩ := q; exact ⟨q0, q1, qP, va_K.moved (u := U) (U := U.calling g mk a) (Vm.Alike.refl U.vm) qK, qD⟩, va_recv hK hPc (ci := 12) (q0 := 0) rfl rfl, fun U hU hW => ⟨rfl, by rw [hU], by rw [hU]; exact hPc, va_K.moved hW.alike hK, hDc.weaken (fun _ _ _ _ => trivial)⟩⟩ rfl rfl hl.1 rfl (lv_room (Nat.le_of_ble_eq_true rfl)) dX12_best_138 ⟨Nat.le_of_ble_eq_true rfl, Nat.le_of_ble_eq_true rfl⟩) hS (fun q _ h => hFc q h) hFc (fun r138 u9 t9 H1 locs ht9 hvm9 hw9 hB9 hz9 hkk9 hS => ?_)
              have hw9 : y138.1 = r138 := hw9.symm
              subst hw9
              obtain ⟨hP9, hK9, hD9⟩ := hB9
              rw [ht9] at hP9
              obtain ⟨hP, hD⟩ := va_join (wr := []) (w1 := [(q_this, .inr (12, [.ref q_town, .ref q_read, .ref q_now, .ref q_aside, .ref q_past, .int v_undos, .ref q_images, .ref q_kept, .long v_seed, .ref q_text, .int v_size, .int v_fault, .ref q_sights, .int v_sightMany, .ref q_book, .int v_bookMany, .int v_at, .int v_begin, .int v_sign, .int v_figures, .int v_value, .int v_wrong, .ref q_went, .ref q_free, .ref q_stands])), (q_town, .inl (cI, 27, .inl v_town)), (q_now, .inl (cI, 19, .inl v_now)), (q_stands, .inl (cI, 8, .inl y138.2))]) hP hD [2, 3, 0, 1] [] rfl rfl (by decide) (by decide) hkk9 hFc hP9 hD9
              generalize H1 = H at hP hS ⊢
              have hP : va_P (dC, dI) vwCl [(q_this, .inr (12, [.ref q_town, .ref q_read, .ref q_now, .ref q_aside, .ref q_past, .int v_undos, .ref q_images, .ref q_kept, .long v_seed, .ref q_text, .int v_size, .int v_fault, .ref q_sights, .int v_sightMany, .ref q_book, .int v_bookMany, .int v_at, .int v_begin, .int v_sign, .int v_figures, .int v_value, .int v_wrong, .ref q_went, .ref q_free, .ref q_stands])), (q_town, .inl (cI, 27, .inl v_town)), (q_now, .inl (cI, 19, .inl v_now)), (q_stands, .inl (cI, 8, .inl y138.2))] H := hP
              have hD : va_D A [(q_this, .inr (12, [.ref q_town, .ref q_read, .ref q_now, .ref q_aside, .ref q_past, .int v_undos, .ref q_images, .ref q_kept, .long v_seed, .ref q_text, .int v_size, .int v_fault, .ref q_sights, .int v_sightMany, .ref q_book, .int v_bookMany, .int v_at, .int v_begin, .int v_sign, .int v_figures, .int v_value, .int v_wrong, .ref q_went, .ref q_free, .ref q_stands])), (q_town, .inl (cI, 27, .inl v_town)), (q_now, .inl (cI, 19, .inl v_now)), (q_stands, .inl (cI, 8, .inl y138.2))] := hD
              refine lv_istore (lv' := [(10, .int y138.1), (9, .int o87.2.1), (8, .int o87.2.2.1), (7, .int o87.2.2.2), (6, .int w67.1), (5, .int o46.2), (4, .int w67.2.1), (3, .int w67.2.2.1), (2, .int k67_0), (0, .ref q_this), (1, .int a1)]) hx hb dX12_best_141 hl (by decide) rfl (fun ls hl => ?_)
              refine lv_iload hx hb dX12_best_143 (lv_at hl 0 rfl) ?_
              refine lv_iload hx hb dX12_best_145 (lv_at hl 6 rfl) ?_
              refine lv_icmp_ge (tgt := 155) hx hb dX12_best_147 (by decide) (fun c9 => ?_) (fun c9 => ?_)
              · have hrun := oz_t hrun c9
                refine lv_iload_n hx hb dX12_best_155 rfl (lv_at hl 7 rfl) ?_
                refine lv_istore_n (lv' := [(3, .int w67.2.2.1), (10, .int y138.1), (9, .int o87.2.1), (8, .int o87.2.2.1), (7, .int o87.2.2.2), (6, .int w67.1), (5, .int o46.2), (4, .int w67.2.1), (2, .int k67_0), (0, .ref q_this), (1, .int a1)]) hx hb dX12_best_156 rfl hl (by decide) rfl (fun ls hl => ?_)
                refine lv_iload hx hb dX12_best_157 (lv_at hl 1 rfl) ?_
                refine lv_iload hx hb dX12_best_159 (lv_at hl 7 rfl) ?_
                refine lv_icmp_ge (tgt := 169) hx hb dX12_best_161 (by decide) (fun c10 => ?_) (fun c10 => ?_)
                · have hrun := oz_t hrun c10
                  refine lv_iload hx hb dX12_best_169 (lv_at hl 7 rfl) ?_
                  refine lv_istore (lv' := [(4, .int w67.2.1), (3, .int w67.2.2.1), (10, .int y138.1), (9, .int o87.2.1), (8, .int o87.2.2.1), (7, .int o87.2.2.2), (6, .int w67.1), (5, .int o46.2), (2, .int k67_0), (0, .ref q_this), (1, .int a1)]) hx hb dX12_best_171 hl (by decide) rfl (fun ls hl => ?_)
                  refine lv_iinc (v := (w67.1 + 1)) (lv' := [(6, .int (w67.1 + 1)), (4, .int w67.2.1), (3, .int w67.2.2.1), (10, .int y138.1), (9, .int o87.2.1), (8, .int o87.2.2.1), (7, .int o87.2.2.2), (5, .int o46.2), (2, .int k67_0), (0, .ref q_this), (1, .int a1)]) hx hb dX12_best_173 hl (k := 6) rfl rfl (by decide) rfl (fun ls hl => ?_)
                  refine lv_goto (tgt := 67) hx hb dX12_best_176 (by decide) ?_
                  have hr9 := Option.some.inj hrun
                  subst hr9
                  exact ih ((w67.1 + 1), w67.2.1, w67.2.2.1, y138.2) _ hnext hexit _ _ _ (hP.sub [0, 1, 2, 3] rfl) (hD.sub [0, 1, 2, 3] (by decide) rfl) hS (lv_sub hl [0, 7, 1, 2, 8, 9, 10] rfl)
                · have hrun := oz_f hrun c10
                  refine lv_iload hx hb dX12_best_164 (lv_at hl 1 rfl) ?_
                  refine lv_goto (tgt := 171) hx hb dX12_best_166 (by decide) ?_
                  refine lv_istore (lv' := [(4, .int y138.1), (3, .int w67.2.2.1), (10, .int y138.1), (9, .int o87.2.1), (8, .int o87.2.2.1), (7, .int o87.2.2.2), (6, .int w67.1), (5, .int o46.2), (2, .int k67_0), (0, .ref q_this), (1, .int a1)]) hx hb dX12_best_171 hl (by decide) rfl (fun ls hl => ?_)
                  refine lv_iinc (v := (w67.1 + 1)) (lv' := [(6, .int (w67.1 + 1)), (4, .int y138.1), (3, .int w67.2.2.1), (10, .int y138.1), (9, .int o87.2.1), (8, .int o87.2.2.1), (7, .int o87.2.2.2), (5, .int o46.2), (2, .int k67_0), (0, .ref q_this), (1, .int a1)]) hx hb dX12_best_173 hl (k := 6) rfl rfl (by decide) rfl (fun ls hl => ?_)
                  refine lv_goto (tgt := 67) hx hb dX12_best_176 (by decide) ?_
                  have hr9 := Option.some.inj hrun
                  subst hr9
                  exact ih ((w67.1 + 1), y138.1, w67.2.2.1, y138.2) _ hnext hexit _ _ _ (hP.sub [0, 1, 2, 3] rfl) (hD.sub [0, 1, 2, 3] (by decide) rfl) hS (lv_sub hl [0, 7, 1, 2, 8, 9, 10] rfl)
              · have hrun := oz_f hrun c9
                refine lv_iload hx hb dX12_best_150 (lv_at hl 3 rfl) ?_
                refine lv_goto (tgt := 156) hx hb dX12_best_152 (by decide) ?_
                refine lv_istore_n (lv' := [(3, .int o87.2.2.2), (10, .int y138.1), (9, .int o87.2.1), (8, .int o87.2.2.1), (7, .int o87.2.2.2), (6, .int w67.1), (5, .int o46.2), (4, .int w67.2.1), (2, .int k67_0), (0, .ref q_this), (1, .int a1)]) hx hb dX12_best_156 rfl hl (by decide) rfl (fun ls hl => ?_)
                refine lv_iload hx hb dX12_best_157 (lv_at hl 1 rfl) ?_
                refine lv_iload hx hb dX12_best_159 (lv_at hl 7 rfl) ?_
                refine lv_icmp_ge (tgt := 169) hx hb dX12_best_161 (by decide) (fun c11 => ?_) (fun c11 => ?_)
                · have hrun := oz_t hrun c11
                  refine lv_iload hx hb dX12_best_169 (lv_at hl 7 rfl) ?_
                  refine lv_istore (lv' := [(4, .int w67.2.1), (3, .int o87.2.2.2), (10, .int y138.1), (9, .int o87.2.1), (8, .int o87.2.2.1), (7, .int o87.2.2.2), (6, .int w67.1), (5, .int o46.2), (2, .int k67_0), (0, .ref q_this), (1, .int a1)]) hx hb dX12_best_171 hl (by decide) rfl (fun ls hl => ?_)
                  refine lv_iinc (v := (w67.1 + 1)) (lv' := [(6, .int (w67.1 + 1)), (4, .int w67.2.1), (3, .int o87.2.2.2), (10, .int y138.1), (9, .int o87.2.1), (8, .int o87.2.2.1), (7, .int o87.2.2.2), (5, .int o46.2), (2, .int k67_0), (0, .ref q_this), (1, .int a1)]) hx hb dX12_best_173 hl (k := 6) rfl rfl (by decide) rfl (fun ls hl => ?_)
                  refine lv_goto (tgt := 67) hx hb dX12_best_176 (by decide) ?_
                  have hr9 := Option.some.inj hrun
                  subst hr9
                  exact ih ((w67.1 + 1), w67.2.1, o87.2.2.2, y138.2) _ hnext hexit _ _ _ (hP.sub [0, 1, 2, 3] rfl) (hD.sub [0, 1, 2, 3] (by decide) rfl) hS (lv_sub hl [0, 7, 1, 2, 8, 9, 10] rfl)
                · have hrun := oz_f hrun c11
                  refine lv_iload hx hb dX12_best_164 (lv_at hl 1 rfl) ?_
                  refine lv_goto (tgt := 171) hx hb dX12_best_166 (by decide) ?_
                  refine lv_istore (lv' := [(4, .int y138.1), (3, .int o87.2.2.2), (10, .int y138.1), (9, .int o87.2.1), (8, .int o87.2.2.1), (7, .int o87.2.2.2), (6, .int w67.1), (5, .int o46.2), (2, .int k67_0), (0, .ref q_this), (1, .int a1)]) hx hb dX12_best_171 hl (by decide) rfl (fun ls hl => ?_)
                  refine lv_iinc (v := (w67.1 + 1)) (lv' := [(6, .int (w67.1 + 1)), (4, .int y138.1), (3, .int o87.2.2.2), (10, .int y138.1), (9, .int o87.2.1), (8, .int o87.2.2.1), (7, .int o87.2.2.2), (5, .int o46.2), (2, .int k67_0), (0, .ref q_this), (1, .int a1)]) hx hb dX12_best_173 hl (k := 6) rfl rfl (by decide) rfl (fun ls hl => ?_)
                  refine lv_goto (tgt := 67) hx hb dX12_best_176 (by decide) ?_
                  have hr9 := Option.some.inj hrun
                  subst hr9
                  exact ih ((w67.1 + 1), y138.1, o87.2.2.2, y138.2) _ hnext hexit _ _ _ (hP.sub [0, 1, 2, 3] rfl) (hD.sub [0, 1, 2, 3] (by decide) rfl) hS (lv_sub hl [0, 7, 1, 2, 8, 9, 10] rfl)
      refine hL67 (v_town (Int32.toNatClampNeg 2)) oz_fuel (0, 100000000, (-1), v_stands) o67 hlp67 (fun H locs ls hP hD hS hl => ?_) _ _ _ (hP.sub [0, 1, 2, 3] rfl) (hD.sub [0, 1, 2, 3] (by decide) rfl) hS (lv_sub hl [0, 1, 2, 3, 4, 5, 6] rfl)
      have hP : va_P (dC, dI) vwCl [(q_this, .inr (12, [.ref q_town, .ref q_read, .ref q_now, .ref q_aside, .ref q_past, .int v_undos, .ref q_images, .ref q_kept, .long v_seed, .ref q_text, .int v_size, .int v_fault, .ref q_sights, .int v_sightMany, .ref q_book, .int v_bookMany, .int v_at, .int v_begin, .int v_sign, .int v_figures, .int v_value, .int v_wrong, .ref q_went, .ref q_free, .ref q_stands])), (q_town, .inl (cI, 27, .inl v_town)), (q_now, .inl (cI, 19, .inl v_now)), (q_stands, .inl (cI, 8, .inl o67.2.2.2))] H := hP
      have hD : va_D A [(q_this, .inr (12, [.ref q_town, .ref q_read, .ref q_now, .ref q_aside, .ref q_past, .int v_undos, .ref q_images, .ref q_kept, .long v_seed, .ref q_text, .int v_size, .int v_fault, .ref q_sights, .int v_sightMany, .ref q_book, .int v_bookMany, .int v_at, .int v_begin, .int v_sign, .int v_figures, .int v_value, .int v_wrong, .ref q_went, .ref q_free, .ref q_stands])), (q_town, .inl (cI, 27, .inl v_town)), (q_now, .inl (cI, 19, .inl v_now)), (q_stands, .inl (cI, 8, .inl o67.2.2.2))] := hD
      have hl : lv_has ls 11 [(6, .int o67.1), (5, .int o46.2), (4, .int o67.2.1), (3, .int o67.2.2.1), (2, .int (v_town (Int32.toNatClampNeg 2))), (0, .ref q_this), (1, .int a1)] := hl
      refine lv_iload_n hx hb dX12_best_179 rfl (lv_at hl 3 rfl) ?_
      refine lv_iconst (v := (-1)) hx hb dX12_best_180 (by decide) ?_
      refine lv_icmp_eq (tgt := 188) hx hb dX12_best_181 (by decide) (fun c12 => ?_) (fun c12 => ?_)
      · have hrun := oz_t hrun c12
        refine lv_iload_n hx hb dX12_best_188 rfl (lv_at hl 3 rfl) ?_
        refine lv_goto (tgt := 194) hx hb dX12_best_189 (by decide) ?_
        have ho9 := Option.some.inj hrun
        subst ho9
        have hP9 := hP.sub (ws' := [(q_this, .inr (12, [.ref q_town, .ref q_read, .ref q_now, .ref q_aside, .ref q_past, .int v_undos, .ref q_images, .ref q_kept, .long v_seed, .ref q_text, .int v_size, .int v_fault, .ref q_sights, .int v_sightMany, .ref q_book, .int v_bookMany, .int v_at, .int v_begin, .int v_sign, .int v_figures, .int v_value, .int v_wrong, .ref q_went, .ref q_free, .ref q_stands])), (q_town, .inl (cI, 27, .inl v_town)), (q_now, .inl (cI, 19, .inl v_now)), (q_stands, .inl (cI, 8, .inl o67.2.2.2))]) [0, 1, 2, 3] rfl
        have hD9 := hD.sub (ws' := [(q_this, .inr (12, [.ref q_town, .ref q_read, .ref q_now, .ref q_aside, .ref q_past, .int v_undos, .ref q_images, .ref q_kept, .long v_seed, .ref q_text, .int v_size, .int v_fault, .ref q_sights, .int v_sightMany, .ref q_book, .int v_bookMany, .int v_at, .int v_begin, .int v_sign, .int v_figures, .int v_value, .int v_wrong, .ref q_went, .ref q_free, .ref q_stands])), (q_town, .inl (cI, 27, .inl v_town)), (q_now, .inl (cI, 19, .inl v_now)), (q_stands, .inl (cI, 8, .inl o67.2.2.2))]) [0, 1, 2, 3] (by decide) rfl
        rw [hQ]
        exact W.iret (v := o67.2.2.1) hx hb hr (fun t ht hW => ⟨⟨o67.2.2.1, (), rfl, rfl, by rw [ht]; exact hP9, va_K.moved hW.alike hK, hD9⟩, hS.F ht⟩) hS.2.2 dX12_best_194
      · have hrun := oz_f hrun c12
        refine lv_iload_n hx hb dX12_best_184 rfl (lv_at hl 6 rfl) ?_
        refine lv_if_ne (tgt := 192) hx hb dX12_best_185 (by decide) (fun c13 => ?_) (fun c13 => ?_)
        · have hrun := oz_f hrun c13
          refine lv_iload hx hb dX12_best_192 (lv_at hl 2 rfl) ?_
          have ho9 := Option.some.inj hrun
          subst ho9
          have hP9 := hP.sub (ws' := [(q_this, .inr (12, [.ref q_town, .ref q_read, .ref q_now, .ref q_aside, .ref q_past, .int v_undos, .ref q_images, .ref q_kept, .long v_seed, .ref q_text, .int v_size, .int v_fault, .ref q_sights, .int v_sightMany, .ref q_book, .int v_bookMany, .int v_at, .int v_begin, .int v_sign, .int v_figures, .int v_value, .int v_wrong, .ref q_went, .ref q_free, .ref q_stands])), (q_town, .inl (cI, 27, .inl v_town)), (q_now, .inl (cI, 19, .inl v_now)), (q_stands, .inl (cI, 8, .inl o67.2.2.2))]) [0, 1, 2, 3] rfl
          have hD9 := hD.sub (ws' := [(q_this, .inr (12, [.ref q_town, .ref q_read, .ref q_now, .ref q_aside, .ref q_past, .int v_undos, .ref q_images, .ref q_kept, .long v_seed, .ref q_text, .int v_size, .int v_fault, .ref q_sights, .int v_sightMany, .ref q_book, .int v_bookMany, .int v_at, .int v_begin, .int v_sign, .int v_figures, .int v_value, .int v_wrong, .ref q_went, .ref q_free, .ref q_stands])), (q_town, .inl (cI, 27, .inl v_town)), (q_now, .inl (cI, 19, .inl v_now)), (q_stands, .inl (cI, 8, .inl o67.2.2.2))]) [0, 1, 2, 3] (by decide) rfl
          rw [hQ]
          exact W.iret (v := o67.2.1) hx hb hr (fun t ht hW => ⟨⟨o67.2.1, (), rfl, rfl, by rw [ht]; exact hP9, va_K.moved hW.alike hK, hD9⟩, hS.F ht⟩) hS.2.2 dX12_best_194
        · have hrun := oz_t hrun c13
          refine lv_iload_n hx hb dX12_best_188 rfl (lv_at hl 3 rfl) ?_
          refine lv_goto (tgt := 194) hx hb dX12_best_189 (by decide) ?_
          have ho9 := Option.some.inj hrun
          subst ho9
          have hP9 := hP.sub (ws' := [(q_this, .inr (12, [.ref q_town, .ref q_read, .ref q_now, .ref q_aside, .ref q_past, .int v_undos, .ref q_images, .ref q_kept, .long v_seed, .ref q_text, .int v_size, .int v_fault, .ref q_sights, .int v_sightMany, .ref q_book, .int v_bookMany, .int v_at, .int v_begin, .int v_sign, .int v_figures, .int v_value, .int v_wrong, .ref q_went, .ref q_free, .ref q_stands])), (q_town, .inl (cI, 27, .inl v_town)), (q_now, .inl (cI, 19, .inl v_now)), (q_stands, .inl (cI, 8, .inl o67.2.2.2))]) [0, 1, 2, 3] rfl
          have hD9 := hD.sub (ws' := [(q_this, .inr (12, [.ref q_town, .ref q_read, .ref q_now, .ref q_aside, .ref q_past, .int v_undos, .ref q_images, .ref q_kept, .long v_seed, .ref q_text, .int v_size, .int v_fault, .ref q_sights, .int v_sightMany, .ref q_book, .int v_bookMany, .int v_at, .int v_begin, .int v_sign, .int v_figures, .int v_value, .int v_wrong, .ref q_went, .ref q_free, .ref q_stands])), (q_town, .inl (cI, 27, .inl v_town)), (q_now, .inl (cI, 19, .inl v_now)), (q_stands, .inl (cI, 8, .inl o67.2.2.2))]) [0, 1, 2, 3] (by decide) rfl
          rw [hQ]
          exact W.iret (v := o67.2.2.1) hx hb hr (fun t ht hW => ⟨⟨o67.2.2.1, (), rfl, rfl, by rw [ht]; exact hP9, va_K.moved hW.alike hK, hD9⟩, hS.F ht⟩) hS.2.2 dX12_best_194
    · have hrun := oz_f hrun c2
      refine lv_iload_n hx hb dX12_best_30 rfl (lv_at hl 2 rfl) ?_
      refine lv_bipush (v := 6) hx hb dX12_best_31 (by decide) ?_
      refine lv_icmp_le (tgt := 40) hx hb dX12_best_33 (by decide) (fun c14 => ?_) (fun c14 => ?_)
      · have hrun := oz_t hrun c14
        refine lv_iconst (v := 1) hx hb dX12_best_40 (by decide) ?_
        refine lv_istore (lv' := [(5, .int 1), (4, .int 100000000), (3, .int (-1)), (2, .int (v_town (Int32.toNatClampNeg 2))), (0, .ref q_this), (1, .int a1)]) hx hb dX12_best_41 hl (by decide) rfl (fun ls hl => ?_)
        refine lv_iconst (v := 0) hx hb dX12_best_43 (by decide) ?_
        refine lv_istore (lv' := [(6, .int 0), (5, .int 1), (4, .int 100000000), (3, .int (-1)), (2, .int (v_town (Int32.toNatClampNeg 2))), (0, .ref q_this), (1, .int a1)]) hx hb dX12_best_44 hl (by decide) rfl (fun ls hl => ?_)
        obtain ⟨o46, hlp46, hrun⟩ := oz_bind hrun
        have hL46 : ∀ (k46_0 : Int32) (n : Nat) (w46 : Int32 × Int32) (o46 : Int32 × Int32), oz_loop (fX12_best_b46 k46_0) n w46 = some o46 → (∀ (H : Heap) (locs : List Loc) (ls : Array Slot), va_P (dC, dI) vwCl [(q_this, .inr (12, [.ref q_town, .ref q_read, .ref q_now, .ref q_aside, .ref q_past, .int v_undos, .ref q_images, .ref q_kept, .long v_seed, .ref q_text, .int v_size, .int v_fault, .ref q_sights, .int v_sightMany, .ref q_book, .int v_bookMany, .int v_at, .int v_begin, .int v_sign, .int v_figures, .int v_value, .int v_wrong, .ref q_went, .ref q_free, .ref q_stands])), (q_town, .inl (cI, 27, .inl v_town)), (q_now, .inl (cI, 19, .inl v_now)), (q_stands, .inl (cI, 8, .inl v_stands))] H → va_D A [(q_this, .inr (12, [.ref q_town, .ref q_read, .ref q_now, .ref q_aside, .ref q_past, .int v_undos, .ref q_images, .ref q_kept, .long v_seed, .ref q_text, .int v_size, .int v_fault, .ref q_sights, .int v_sightMany, .ref q_book, .int v_bookMany, .int v_at, .int v_begin, .int v_sign, .int v_figures, .int v_value, .int v_wrong, .ref q_went, .ref q_free, .ref q_stands])), (q_town, .inl (cI, 27, .inl v_town)), (q_now, .inl (cI, 19, .inl v_now)), (q_stands, .inl (cI, 8, .inl v_stands))] → va_S A s.heap H locs → lv_has ls 11 [(6, .int o46.1), (5, .int o46.2), (4, .int 100000000), (3, .int (-1)), (2, .int k46_0), (0, .ref q_this), (1, .int a1)] → W p l e (headSpec wsX12_best rmX12_best).room s m (([.ref q_this, .int a1] : List Value).toArray) below meth c H locs 0 0 Q (F0 m 64 ls [])) → ∀ (H : Heap) (locs : List Loc) (ls : Array Slot), va_P (dC, dI) vwCl [(q_this, .inr (12, [.ref q_town, .ref q_read, .ref q_now, .ref q_aside, .ref q_past, .int v_undos, .ref q_images, .ref q_kept, .long v_seed, .ref q_text, .int v_size, .int v_fault, .ref q_sights, .int v_sightMany, .ref q_book, .int v_bookMany, .int v_at, .int v_begin, .int v_sign, .int v_figures, .int v_value, .int v_wrong, .ref q_went, .ref q_free, .ref q_stands])), (q_town, .inl (cI, 27, .inl v_town)), (q_now, .inl (cI, 19, .inl v_now)), (q_stands, .inl (cI, 8, .inl v_stands))] H → va_D A [(q_this, .inr (12, [.ref q_town, .ref q_read, .ref q_now, .ref q_aside, .ref q_past, .int v_undos, .ref q_images, .ref q_kept, .long v_seed, .ref q_text, .int v_size, .int v_fault, .ref q_sights, .int v_sightMany, .ref q_book, .int v_bookMany, .int v_at, .int v_begin, .int v_sign, .int v_figures, .int v_value, .int v_wrong, .ref q_went, .ref q_free, .ref q_stands])), (q_town, .inl (cI, 27, .inl v_town)), (q_now, .inl (cI, 19, .inl v_now)), (q_stands, .inl (cI, 8, .inl v_stands))] → va_S A s.heap H locs → lv_has ls 11 [(6, .int w46.1), (5, .int w46.2), (4, .int 100000000), (3, .int (-1)), (2, .int k46_0), (0, .ref q_this), (1, .int a1)] → W p l e (headSpec wsX12_best rmX12_best).room s m (([.ref q_this, .int a1] : List Value).toArray) below meth c H locs 0 0 Q (F0 m 46 ls []) := by
          intro k46_0 n
          induction n with
          | zero => intro w46 o46 h9; exact (oz_zero h9).elim
          | succ n ih =>
            intro w46 o46 h9 hexit H locs ls hP hD hS hl
            obtain ⟨r9, hrun, hnext⟩ := oz_step h9
            unfold fX12_best_b46 at hrun
            refine lv_iload hx hb dX12_best_46 (lv_at hl 0 rfl) ?_
            refine lv_iload_n hx hb dX12_best_48 rfl (lv_at hl 4 rfl) ?_
            refine lv_icmp_ge (tgt := 64) hx hb dX12_best_49 (by decide) (fun c15 => ?_) (fun c15 => ?_)
            · have hrun := oz_t hrun c15
              have hr9 := Option.some.inj hrun
              subst hr9
              have ho9 : (w46.1, w46.2) = o46 := hnext
              subst ho9
              exact hexit _ _ _ (hP.sub [0, 1, 2, 3] rfl) (hD.sub [0, 1, 2, 3] (by decide) rfl) hS (lv_sub hl [0, 1, 2, 3, 4, 5, 6] rfl)
            · have hrun := oz_f hrun c15
              refine lv_iload hx hb dX12_best_52 (lv_at hl 1 rfl) ?_
              refine lv_iload_n hx hb dX12_best_54 rfl (lv_at hl 4 rfl) ?_
              refine lv_imul hx hb dX12_best_55 ?_
              refine lv_istore (lv' := [(5, .int (w46.2 * k46_0)), (6, .int w46.1), (4, .int 100000000), (3, .int (-1)), (2, .int k46_0), (0, .ref q_this), (1, .int a1)]) hx hb dX12_best_56 hl (by decide) rfl (fun ls hl => ?_)
              refine lv_iinc (v := (w46.1 + 1)) (lv' := [(6, .int (w46.1 + 1)), (5, .int (w46.2 * k46_0)), (4, .int 100000000), (3, .int (-1)), (2, .int k46_0), (0, .ref q_this), (1, .int a1)]) hx hb dX12_best_58 hl (k := 1) rfl rfl (by decide) rfl (fun ls hl => ?_)
              refine lv_goto (tgt := 46) hx hb dX12_best_61 (by decide) ?_
              have hr9 := Option.some.inj hrun
              subst hr9
              exact ih ((w46.1 + 1), (w46.2 * k46_0)) _ hnext hexit _ _ _ (hP.sub [0, 1, 2, 3] rfl) (hD.sub [0, 1, 2, 3] (by decide) rfl) hS (lv_sub hl [0, 1, 2, 3, 4, 5, 6] rfl)
        refine hL46 (v_town (Int32.toNatClampNeg 2)) oz_fuel (0, 1) o46 hlp46 (fun H locs ls hP hD hS hl => ?_) _ _ _ (hP.sub [0, 1, 2, 3] rfl) (hD.sub [0, 1, 2, 3] (by decide) rfl) hS (lv_sub hl [0, 1, 2, 3, 4, 5, 6] rfl)
        have hP : va_P (dC, dI) vwCl [(q_this, .inr (12, [.ref q_town, .ref q_read, .ref q_now, .ref q_aside, .ref q_past, .int v_undos, .ref q_images, .ref q_kept, .long v_seed, .ref q_text, .int v_size, .int v_fault, .ref q_sights, .int v_sightMany, .ref q_book, .int v_bookMany, .int v_at, .int v_begin, .int v_sign, .int v_figures, .int v_value, .int v_wrong, .ref q_went, .ref q_free, .ref q_stands])), (q_town, .inl (cI, 27, .inl v_town)), (q_now, .inl (cI, 19, .inl v_now)), (q_stands, .inl (cI, 8, .inl v_stands))] H := hP
        have hD : va_D A [(q_this, .inr (12, [.ref q_town, .ref q_read, .ref q_now, .ref q_aside, .ref q_past, .int v_undos, .ref q_images, .ref q_kept, .long v_seed, .ref q_text, .int v_size, .int v_fault, .ref q_sights, .int v_sightMany, .ref q_book, .int v_bookMany, .int v_at, .int v_begin, .int v_sign, .int v_figures, .int v_value, .int v_wrong, .ref q_went, .ref q_free, .ref q_stands])), (q_town, .inl (cI, 27, .inl v_town)), (q_now, .inl (cI, 19, .inl v_now)), (q_stands, .inl (cI, 8, .inl v_stands))] := hD
        have hl : lv_has ls 11 [(6, .int o46.1), (5, .int o46.2), (4, .int 100000000), (3, .int (-1)), (2, .int (v_town (Int32.toNatClampNeg 2))), (0, .ref q_this), (1, .int a1)] := hl
        refine lv_iconst (v := 0) hx hb dX12_best_64 (by decide) ?_
        refine lv_istore (lv' := [(6, .int 0), (5, .int o46.2), (4, .int 100000000), (3, .int (-1)), (2, .int (v_town (Int32.toNatClampNeg 2))), (0, .ref q_this), (1, .int a1)]) hx hb dX12_best_65 hl (by decide) rfl (fun ls hl => ?_)
        obtain ⟨o67, hlp67, hrun⟩ := oz_bind hrun
        have hL67 : ∀ (k67_0 : Int32) (n : Nat) (w67 : Int32 × Int32 × Int32 × (Nat → Int32)) (o67 : Int32 × Int32 × Int32 × (Nat → Int32)), oz_loop (fX12_best_b67 v_town v_now k67_0 o46) n w67 = some o67 → (∀ (H : Heap) (locs : List Loc) (ls : Array Slot), va_P (dC, dI) vwCl [(q_this, .inr (12, [.ref q_town, .ref q_read, .ref q_now, .ref q_aside, .ref q_past, .int v_undos, .ref q_images, .ref q_kept, .long v_seed, .ref q_text, .int v_size, .int v_fault, .ref q_sights, .int v_sightMany, .ref q_book, .int v_bookMany, .int v_at, .int v_begin, .int v_sign, .int v_figures, .int v_value, .int v_wrong, .ref q_went, .ref q_free, .ref q_stands])), (q_town, .inl (cI, 27, .inl v_town)), (q_now, .inl (cI, 19, .inl v_now)), (q_stands, .inl (cI, 8, .inl o67.2.2.2))] H → va_D A [(q_this, .inr (12, [.ref q_town, .ref q_read, .ref q_now, .ref q_aside, .ref q_past, .int v_undos, .ref q_images, .ref q_kept, .long v_seed, .ref q_text, .int v_size, .int v_fault, .ref q_sights, .int v_sightMany, .ref q_book, .int v_bookMany, .int v_at, .int v_begin, .int v_sign, .int v_figures, .int v_value, .int v_wrong, .ref q_went, .ref q_free, .ref q_stands])), (q_town, .inl (cI, 27, .inl v_town)), (q_now, .inl (cI, 19, .inl v_now)), (q_stands, .inl (cI, 8, .inl o67.2.2.2))] → va_S A s.heap H locs → lv_has ls 11 [(6, .int o67.1), (5, .int o46.2), (4, .int o67.2.1), (3, .int o67.2.2.1), (2, .int k67_0), (0, .ref q_this), (1, .int a1)] → W p l e (headSpec wsX12_best rmX12_best).room s m (([.ref q_this, .int a1] : List Value).toArray) below meth c H locs 0 0 Q (F0 m 179 ls [])) → ∀ (H : Heap) (locs : List Loc) (ls : Array Slot), va_P (dC, dI) vwCl [(q_this, .inr (12, [.ref q_town, .ref q_read, .ref q_now, .ref q_aside, .ref q_past, .int v_undos, .ref q_images, .ref q_kept, .long v_seed, .ref q_text, .int v_size, .int v_fault, .ref q_sights, .int v_sightMany, .ref q_book, .int v_bookMany, .int v_at, .int v_begin, .int v_sign, .int v_figures, .int v_value, .int v_wrong, .ref q_went, .ref q_free, .ref q_stands])), (q_town, .inl (cI, 27, .inl v_town)), (q_now, .inl (cI, 19, .inl v_now)), (q_stands, .inl (cI, 8, .inl w67.2.2.2))] H → va_D A [(q_this, .inr (12, [.ref q_town, .ref q_read, .ref q_now, .ref q_aside, .ref q_past, .int v_undos, .ref q_images, .ref q_kept, .long v_seed, .ref q_text, .int v_size, .int v_fault, .ref q_sights, .int v_sightMany, .ref q_book, .int v_bookMany, .int v_at, .int v_begin, .int v_sign, .int v_figures, .int v_value, .int v_wrong, .ref q_went, .ref q_free, .ref q_stands])), (q_town, .inl (cI, 27, .inl v_town)), (q_now, .inl (cI, 19, .inl v_now)), (q_stands, .inl (cI, 8, .inl w67.2.2.2))] → va_S A s.heap H locs → lv_has ls 11 [(6, .int w67.1), (5, .int o46.2), (4, .int w67.2.1), (3, .int w67.2.2.1), (2, .int k67_0), (0, .ref q_this), (1, .int a1)] → W p l e (headSpec wsX12_best rmX12_best).room s m (([.ref q_this, .int a1] : List Value).toArray) below meth c H locs 0 0 Q (F0 m 67 ls []) := by
          intro k67_0 n
          induction n with
          | zero => intro w67 o67 h9; exact (oz_zero h9).elim
          | succ n ih =>
            intro w67 o67 h9 hexit H locs ls hP hD hS hl
            obtain ⟨r9, hrun, hnext⟩ := oz_step h9
            unfold fX12_best_b67 at hrun
            refine lv_iload hx hb dX12_best_67 (lv_at hl 0 rfl) ?_
            refine lv_iload hx hb dX12_best_69 (lv_at hl 1 rfl) ?_
            refine lv_icmp_ge (tgt := 179) hx hb dX12_best_71 (by decide) (fun c16 => ?_) (fun c16 => ?_)
            · have hrun := oz_t hrun c16
              have hr9 := Option.some.inj hrun
              subst hr9
              have ho9 : (w67.1, w67.2.1, w67.2.2.1, w67.2.2.2) = o67 := hnext
              subst ho9
              exact hexit _ _ _ (hP.sub [0, 1, 2, 3] rfl) (hD.sub [0, 1, 2, 3] (by decide) rfl) hS (lv_sub hl [0, 1, 2, 3, 4, 5, 6] rfl)
            · have hrun := oz_f hrun c16
              refine lv_iconst (v := 0) hx hb dX12_best_74 (by decide) ?_
              refine lv_istore (lv' := [(7, .int 0), (6, .int w67.1), (5, .int o46.2), (4, .int w67.2.1), (3, .int w67.2.2.1), (2, .int k67_0), (0, .ref q_this), (1, .int a1)]) hx hb dX12_best_75 hl (by decide) rfl (fun ls hl => ?_)
              refine lv_iload hx hb dX12_best_77 (lv_at hl 1 rfl) ?_
              refine lv_istore (lv' := [(8, .int w67.1), (7, .int 0), (6, .int w67.1), (5, .int o46.2), (4, .int w67.2.1), (3, .int w67.2.2.1), (2, .int k67_0), (0, .ref q_this), (1, .int a1)]) hx hb dX12_best_79 hl (by decide) rfl (fun ls hl => ?_)
              refine lv_iconst (v := 1) hx hb dX12_best_81 (by decide) ?_
              refine lv_istore (lv' := [(9, .int 1), (8, .int w67.1), (7, .int 0), (6, .int w67.1), (5, .int o46.2), (4, .int w67.2.1), (3, .int w67.2.2.1), (2, .int k67_0), (0, .ref q_this), (1, .int a1)]) hx hb dX12_best_82 hl (by decide) rfl (fun ls hl => ?_)
              refine lv_iconst (v := 0) hx hb dX12_best_84 (by decide) ?_
              refine lv_istore (lv' := [(10, .int 0), (9, .int 1), (8, .int w67.1), (7, .int 0), (6, .int w67.1), (5, .int o46.2), (4, .int w67.2.1), (3, .int w67.2.2.1), (2, .int k67_0), (0, .ref q_this), (1, .int a1)]) hx hb dX12_best_85 hl (by decide) rfl (fun ls hl => ?_)
              obtain ⟨o87, hlp87, hrun⟩ := oz_bind hrun
              have hL87 : ∀ (n : Nat) (w87 : Int32 × Int32 × Int32 × Int32) (o87 : Int32 × Int32 × Int32 × Int32), oz_loop (fX12_best_b87 k67_0) n w87 = some o87 → (∀ (H : Heap) (locs : List Loc) (ls : Array Slot), va_P (dC, dI) vwCl [(q_this, .inr (12, [.ref q_town, .ref q_read, .ref q_now, .ref q_aside, .ref q_past, .int v_undos, .ref q_images, .ref q_kept, .long v_seed, .ref q_text, .int v_size, .int v_fault, .ref q_sights, .int v_sightMany, .ref q_book, .int v_bookMany, .int v_at, .int v_begin, .int v_sign, .int v_figures, .int v_value, .int v_wrong, .ref q_went, .ref q_free, .ref q_stands])), (q_town, .inl (cI, 27, .inl v_town)), (q_now, .inl (cI, 19, .inl v_now)), (q_stands, .inl (cI, 8, .inl w67.2.2.2))] H → va_D A [(q_this, .inr (12, [.ref q_town, .ref q_read, .ref q_now, .ref q_aside, .ref q_past, .int v_undos, .ref q_images, .ref q_kept, .long v_seed, .ref q_text, .int v_size, .int v_fault, .ref q_sights, .int v_sightMany, .ref q_book, .int v_bookMany, .int v_at, .int v_begin, .int v_sign, .int v_figures, .int v_value, .int v_wrong, .ref q_went, .ref q_free, .ref q_stands])), (q_town, .inl (cI, 27, .inl v_town)), (q_now, .inl (cI, 19, .inl v_now)), (q_stands, .inl (cI, 8, .inl w67.2.2.2))] → va_S A s.heap H locs → lv_has ls 11 [(10, .int o87.1), (9, .int o87.2.1), (8, .int o87.2.2.1), (7, .int o87.2.2.2), (6, .int w67.1), (5, .int o46.2), (4, .int w67.2.1), (3, .int w67.2.2.1), (2, .int k67_0), (0, .ref q_this), (1, .int a1)] → W p l e (headSpec wsX12_best rmX12_best).room s m (([.ref q_this, .int a1] : List Value).toArray) below meth c H locs 0 0 Q (F0 m 126 ls [])) → ∀ (H : Heap) (locs : List Loc) (ls : Array Slot), va_P (dC, dI) vwCl [(q_this, .inr (12, [.ref q_town, .ref q_read, .ref q_now, .ref q_aside, .ref q_past, .int v_undos, .ref q_images, .ref q_kept, .long v_seed, .ref q_text, .int v_size, .int v_fault, .ref q_sights, .int v_sightMany, .ref q_book, .int v_bookMany, .int v_at, .int v_begin, .int v_sign, .int v_figures, .int v_value, .int v_wrong, .ref q_went, .ref q_free, .ref q_stands])), (q_town, .inl (cI, 27, .inl v_town)), (q_now, .inl (cI, 19, .inl v_now)), (q_stands, .inl (cI, 8, .inl w67.2.2.2))] H → va_D A [(q_this, .inr (12, [.ref q_town, .ref q_read, .ref q_now, .ref q_aside, .ref q_past, .int v_undos, .ref q_images, .ref q_kept, .long v_seed, .ref q_text, .int v_size, .int v_fault, .ref q_sights, .int v_sightMany, .ref q_book, .int v_bookMany, .int v_at, .int v_begin, .int v_sign, .int v_figures, .int v_value, .int v_wrong, .ref q_went, .ref q_free, .ref q_stands])), (q_town, .inl (cI, 27, .inl v_town)), (q_now, .inl (cI, 19, .inl v_now)), (q_stands, .inl (cI, 8, .inl w67.2.2.2))] → va_S A s.heap H locs → lv_has ls 11 [(10, .int w87.1), (9, .int w87.2.1), (8, .int w87.2.2.1), (7, .int w87.2.2.2), (6, .int w67.1), (5, .int o46.2), (4, .int w67.2.1), (3, .int w67.2.2.1), (2, .int k67_0), (0, .ref q_this), (1, .int a1)] → W p l e (headSpec wsX12_best rmX12_best).room s m (([.ref q_this, .int a1] : List Value).toArray) below meth c H locs 0 0 Q (F0 m 87 ls []) := by
                intro n
                induction n with
                | zero => intro w87 o87 h9; exact (oz_zero h9).elim
                | succ n ih =>
                  intro w87 o87 h9 hexit H locs ls hP hD hS hl
                  obtain ⟨r9, hrun, hnext⟩ := oz_step h9
                  unfold fX12_best_b87 at hrun
                  refine lv_iload hx hb dX12_best_87 (lv_at hl 0 rfl) ?_
                  refine lv_iload_n hx hb dX12_best_89 rfl (lv_at hl 8 rfl) ?_
                  refine lv_icmp_ge (tgt := 126) hx hb dX12_best_90 (by decide) (fun c17 => ?_) (fun c17 => ?_)
                  · have hrun := oz_t hrun c17
                    have hr9 := Option.some.inj hrun
                    subst hr9
                    have ho9 : (w87.1, w87.2.1, w87.2.2.1, w87.2.2.2) = o87 := hnext
                    subst ho9
                    exact hexit _ _ _ (hP.sub [0, 1, 2, 3] rfl) (hD.sub [0, 1, 2, 3] (by decide) rfl) hS (lv_sub hl [0, 1, 2, 3, 4, 5, 6, 7, 8, 9, 10] rfl)
                  · have hrun := oz_f hrun c17
                    refine lv_iload hx hb dX12_best_93 (lv_at hl 3 rfl) ?_
                    refine lv_iload hx hb dX12_best_95 (lv_at hl 1 rfl) ?_
                    refine lv_iload hx hb dX12_best_97 (lv_at hl 2 rfl) ?_
                    refine lv_iload_n hx hb dX12_best_99 rfl (lv_at hl 8 rfl) ?_
                    obtain ⟨c18, hrun⟩ := oz_chk hrun
                    refine lv_irem hx hb dX12_best_100 c18 ?_
                    refine lv_iconst (v := 1) hx hb dX12_best_101 (by decide) ?_
                    refine lv_iadd hx hb dX12_best_102 ?_
                    refine lv_imul hx hb dX12_best_103 ?_
                    refine lv_iadd hx hb dX12_best_104 ?_
                    refine lv_istore (lv' := [(7, .int (w87.2.2.2 + (w87.2.1 * ((w87.2.2.1 - w87.2.2.1 / k67_0 * k67_0) + 1)))), (10, .int w87.1), (9, .int w87.2.1), (8, .int w87.2.2.1), (6, .int w67.1), (5, .int o46.2), (4, .int w67.2.1), (3, .int w67.2.2.1), (2, .int k67_0), (0, .ref q_this), (1, .int a1)]) hx hb dX12_best_105 hl (by decide) rfl (fun ls hl => ?_)
                    refine lv_iload hx hb dX12_best_107 (lv_at hl 3 rfl) ?_
                    refine lv_iload_n hx hb dX12_best_109 rfl (lv_at hl 8 rfl) ?_
                    obtain ⟨c19, hrun⟩ := oz_chk hrun
                    refine lv_idiv hx hb dX12_best_110 c19 ?_
                    refine lv_istore (lv' := [(8, .int (w87.2.2.1 / k67_0)), (7, .int (w87.2.2.2 + (w87.2.1 * ((w87.2.2.1 - w87.2.2.1 / k67_0 * k67_0) + 1)))), (10, .int w87.1), (9, .int w87.2.1), (6, .int w67.1), (5, .int o46.2), (4, .int w67.2.1), (3, .int w67.2.2.1), (2, .int k67_0), (0, .ref q_this), (1, .int a1)]) hx hb dX12_best_111 hl (by decide) rfl (fun ls hl => ?_)
                    refine lv_iload hx hb dX12_best_113 (lv_at hl 3 rfl) ?_
                    refine lv_bipush (v := 10) hx hb dX12_best_115 (by decide) ?_
                    refine lv_imul hx hb dX12_best_117 ?_
                    refine lv_istore (lv' := [(9, .int (w87.2.1 * 10)), (8, .int (w87.2.2.1 / k67_0)), (7, .int (w87.2.2.2 + (w87.2.1 * ((w87.2.2.1 - w87.2.2.1 / k67_0 * k67_0) + 1)))), (10, .int w87.1), (6, .int w67.1), (5, .int o46.2), (4, .int w67.2.1), (3, .int w67.2.2.1), (2, .int k67_0), (0, .ref q_this), (1, .int a1)]) hx hb dX12_best_118 hl (by decide) rfl (fun ls hl => ?_)
                    refine lv_iinc (v := (w87.1 + 1)) (lv' := [(10, .int (w87.1 + 1)), (9, .int (w87.2.1 * 10)), (8, .int (w87.2.2.1 / k67_0)), (7, .int (w87.2.2.2 + (w87.2.1 * ((w87.2.2.1 - w87.2.2.1 / k67_0 * k67_0) + 1)))), (6, .int w67.1), (5, .int o46.2), (4, .int w67.2.1), (3, .int w67.2.2.1), (2, .int k67_0), (0, .ref q_this), (1, .int a1)]) hx hb dX12_best_120 hl (k := 3) rfl rfl (by decide) rfl (fun ls hl => ?_)
                    refine lv_goto (tgt := 87) hx hb dX12_best_123 (by decide) ?_
                    have hr9 := Option.some.inj hrun
                    subst hr9
                    exact ih ((w87.1 + 1), (w87.2.1 * 10), (w87.2.2.1 / k67_0), (w87.2.2.2 + (w87.2.1 * ((w87.2.2.1 - w87.2.2.1 / k67_0 * k67_0) + 1)))) _ hnext hexit _ _ _ (hP.sub [0, 1, 2, 3] rfl) (hD.sub [0, 1, 2, 3] (by decide) rfl) hS (lv_sub hl [0, 1, 2, 3, 4, 5, 6, 7, 8, 9, 10] rfl)
              refine hL87 oz_fuel (0, 1, w67.1, 0) o87 hlp87 (fun H locs ls hP hD hS hl => ?_) _ _ _ (hP.sub [0, 1, 2, 3] rfl) (hD.sub [0, 1, 2, 3] (by decide) rfl) hS (lv_sub hl [0, 1, 2, 3, 4, 5, 6, 7, 8, 9, 10] rfl)
              have hP : va_P (dC, dI) vwCl [(q_this, .inr (12, [.ref q_town, .ref q_read, .ref q_now, .ref q_aside, .ref q_past, .int v_undos, .ref q_images, .ref q_kept, .long v_seed, .ref q_text, .int v_size, .int v_fault, .ref q_sights, .int v_sightMany, .ref q_book, .int v_bookMany, .int v_at, .int v_begin, .int v_sign, .int v_figures, .int v_value, .int v_wrong, .ref q_went, .ref q_free, .ref q_stands])), (q_town, .inl (cI, 27, .inl v_town)), (q_now, .inl (cI, 19, .inl v_now)), (q_stands, .inl (cI, 8, .inl w67.2.2.2))] H := hP
              have hD : va_D A [(q_this, .inr (12, [.ref q_town, .ref q_read, .ref q_now, .ref q_aside, .ref q_past, .int v_undos, .ref q_images, .ref q_kept, .long v_seed, .ref q_text, .int v_size, .int v_fault, .ref q_sights, .int v_sightMany, .ref q_book, .int v_bookMany, .int v_at, .int v_begin, .int v_sign, .int v_figures, .int v_value, .int v_wrong, .ref q_went, .ref q_free, .ref q_stands])), (q_town, .inl (cI, 27, .inl v_town)), (q_now, .inl (cI, 19, .inl v_now)), (q_stands, .inl (cI, 8, .inl w67.2.2.2))] := hD
              have hl : lv_has ls 11 [(10, .int o87.1), (9, .int o87.2.1), (8, .int o87.2.2.1), (7, .int o87.2.2.2), (6, .int w67.1), (5, .int o46.2), (4, .int w67.2.1), (3, .int w67.2.2.1), (2, .int k67_0), (0, .ref q_this), (1, .int a1)] := hl
              refine lv_aload_n hx hb dX12_best_126 rfl (lv_at hl 9 rfl) ?_
              refine lv_iload hx hb dX12_best_127 (lv_at hl 3 rfl) ?_
              obtain ⟨y129, hc129, hrun⟩ := oz_bind hrun
              have hPc := hP.sub (ws' := [(q_this, .inr (12, [.ref q_town, .ref q_read, .ref q_now, .ref q_aside, .ref q_past, .int v_undos, .ref q_images, .ref q_kept, .long v_seed, .ref q_text, .int v_size, .int v_fault, .ref q_sights, .int v_sightMany, .ref q_book, .int v_bookMany, .int v_at, .int v_begin, .int v_sign, .int v_figures, .int v_value, .int v_wrong, .ref q_went, .ref q_free, .ref q_stands])), (q_town, .inl (cI, 27, .inl v_town))]) [0, 1] rfl
              have hDc := hD.sub (ws' := [(q_this, .inr (12, [.ref q_town, .ref q_read, .ref q_now, .ref q_aside, .ref q_past, .int v_undos, .ref q_images, .ref q_kept, .long v_seed, .ref q_text, .int v_size, .int v_fault, .ref q_sights, .int v_sightMany, .ref q_book, .int v_bookMany, .int v_at, .int v_begin, .int v_sign, .int v_figures, .int v_value, .int v_wrong, .ref q_went, .ref q_free, .ref q_stands])), (q_town, .inl (cI, 27, .inl v_town))]) [0, 1] (by decide) rfl
              have hFc := va_free (wc := [(q_this, .inr (12, [.ref q_town, .ref q_read, .ref q_now, .ref q_aside, .ref q_past, .int v_undos, .ref q_images, .ref q_kept, .long v_seed, .ref q_text, .int v_size, .int v_fault, .ref q_sights, .int v_sightMany, .ref q_book, .int v_bookMany, .int v_at, .int v_begin, .int v_sign, .int v_figures, .int v_value, .int v_wrong, .ref q_went, .ref q_free, .ref q_stands])), (q_town, .inl (cI, 27, .inl v_town))]) hD hS hA [0, 1] rfl
              refine va_calli (va_runV (As := [.int o87.2.2.2]) (rest := []) ⟨hx, hb, hml, hown, hts⟩ (tX12_isOrder l dC dI cI cZ q_aside q_book q_free q_images q_kept q_now q_past q_read q_sights q_stands q_text q_this q_town q_went H.size v_undos v_seed v_size v_fault v_sightMany v_bookMany v_at v_begin v_sign v_figures v_value v_wrong v_town o87.2.2.2 y129 hc129) (cwV 1 hts gX12_best_X12_isOrder rfl rfl rfl (by decide +kernel) ⟨Nat.le_of_ble_eq_true rfl, Nat.le_of_ble_eq_true rfl⟩) ⟨fun a U g mk q => by obtain ⟨q0, q1, qP, qK, qD⟩ := q; exact ⟨q0, q1, qP, va_K.moved (u := U) (U := U.calling g mk a) (Vm.Alike.refl U.vm) qK, qD⟩, va_recv hK hPc (ci := 12) (q0 := 0) rfl rfl, fun U hU hW => ⟨rfl, by rw [hU], by rw [hU]; exact hPc, va_K.moved hW.alike hK, hDc.weaken (fun _ _ _ _ => trivial)⟩⟩ rfl rfl hl.1 rfl (lv_room (Nat.le_of_ble_eq_true rfl)) dX12_best_129 ⟨Nat.le_of_ble_eq_true rfl, Nat.le_of_ble_eq_true rfl⟩) hS (fun q _ h => hFc q h) hFc (fun r129 u9 t9 H1 locs ht9 hvm9 hw9 hB9 hz9 hkk9 hS => ?_)
              have hw9 : y129 = r129 := hw9.symm
              subst hw9
              obtain ⟨hP9, hK9, hD9⟩ := hB9
              rw [ht9] at hP9
              obtain ⟨hP, hD⟩ := va_join (wr := [(q_now, .inl (cI, 19, .inl v_now)), (q_stands, .inl (cI, 8, .inl w67.2.2.2))]) (w1 := [(q_this, .inr (12, [.ref q_town, .ref q_read, .ref q_now, .ref q_aside, .ref q_past, .int v_undos, .ref q_images, .ref q_kept, .long v_seed, .ref q_text, .int v_size, .int v_fault, .ref q_sights, .int v_sightMany, .ref q_book, .int v_bookMany, .int v_at, .int v_begin, .int v_sign, .int v_figures, .int v_value, .int v_wrong, .ref q_went, .ref q_free, .ref q_stands])), (q_town, .inl (cI, 27, .inl v_town))]) hP hD [0, 1] [2, 3] rfl rfl (by decide) (by decide) hkk9 hFc hP9 hD9
              generalize H1 = H at hP hS ⊢
              have hP : va_P (dC, dI) vwCl [(q_now, .inl (cI, 19, .inl v_now)), (q_stands, .inl (cI, 8, .inl w67.2.2.2)), (q_this, .inr (12, [.ref q_town, .ref q_read, .ref q_now, .ref q_aside, .ref q_past, .int v_undos, .ref q_images, .ref q_kept, .long v_seed, .ref q_text, .int v_size, .int v_fault, .ref q_sights, .int v_sightMany, .ref q_book, .int v_bookMany, .int v_at, .int v_begin, .int v_sign, .int v_figures, .int v_value, .int v_wrong, .ref q_went, .ref q_free, .ref q_stands])), (q_town, .inl (cI, 27, .inl v_town))] H := hP
              have hD : va_D A [(q_now, .inl (cI, 19, .inl v_now)), (q_stands, .inl (cI, 8, .inl w67.2.2.2)), (q_this, .inr (12, [.ref q_town, .ref q_read, .ref q_now, .ref q_aside, .ref q_past, .int v_undos, .ref q_images, .ref q_kept, .long v_seed, .ref q_text, .int v_size, .int v_fault, .ref q_sights, .int v_sightMany, .ref q_book, .int v_bookMany, .int v_at, .int v_begin, .int v_sign, .int v_figures, .int v_value, .int v_wrong, .ref q_went, .ref q_free, .ref q_stands])), (q_town, .inl (cI, 27, .inl v_town))] := hD
              refine lv_if_eq (tgt := 173) hx hb dX12_best_132 (by decide) (fun c20 => ?_) (fun c20 => ?_)
              · have hrun := oz_t hrun c20
                refine lv_iinc (v := (w67.1 + 1)) (lv' := [(6, .int (w67.1 + 1)), (10, .int o87.1), (9, .int o87.2.1), (8, .int o87.2.2.1), (7, .int o87.2.2.2), (5, .int o46.2), (4, .int w67.2.1), (3, .int w67.2.2.1), (2, .int k67_0), (0, .ref q_this), (1, .int a1)]) hx hb dX12_best_173 hl (k := 4) rfl rfl (by decide) rfl (fun ls hl => ?_)
                refine lv_goto (tgt := 67) hx hb dX12_best_176 (by decide) ?_
                have hr9 := Option.some.inj hrun
                subst hr9
                exact ih ((w67.1 + 1), w67.2.1, w67.2.2.1, w67.2.2.2) _ hnext hexit _ _ _ (hP.sub [2, 3, 0, 1] rfl) (hD.sub [2, 3, 0, 1] (by decide) rfl) hS (lv_sub hl [0, 5, 6, 7, 8, 9, 10] rfl)
              · have hrun := oz_f hrun c20
                refine lv_aload_n hx hb dX12_best_135 rfl (lv_at hl 9 rfl) ?_
                refine lv_iload hx hb dX12_best_136 (lv_at hl 3 rfl) ?_
                obtain ⟨y138, hc138, hrun⟩ := oz_bind hrun
                have hPc := hP.sub (ws' := [(q_this, .inr (12, [.ref q_town, .ref q_read, .ref q_now, .ref q_aside, .ref q_past, .int v_undos, .ref q_images, .ref q_kept, .long v_seed, .ref q_text, .int v_size, .int v_fault, .ref q_sights, .int v_sightMany, .ref q_book, .int v_bookMany, .int v_at, .int v_begin, .int v_sign, .int v_figures, .int v_value, .int v_wrong, .ref q_went, .ref q_free, .ref q_stands])), (q_town, .inl (cI, 27, .inl v_town)), (q_now, .inl (cI, 19, .inl v_now)), (q_stands, .inl (cI, 8, .inl w67.2.2.2))]) [2, 3, 0, 1] rfl
                have hDc := hD.sub (ws' := [(q_this, .inr (12, [.ref q_town, .ref q_read, .ref q_now, .ref q_aside, .ref q_past, .int v_undos, .ref q_images, .ref q_kept, .long v_seed, .ref q_text, .int v_size, .int v_fault, .ref q_sights, .int v_sightMany, .ref q_book, .int v_bookMany, .int v_at, .int v_begin, .int v_sign, .int v_figures, .int v_value, .int v_wrong, .ref q_went, .ref q_free, .ref q_stands])), (q_town, .inl (cI, 27, .inl v_town)), (q_now, .inl (cI, 19, .inl v_now)), (q_stands, .inl (cI, 8, .inl w67.2.2.2))]) [2, 3, 0, 1] (by decide) rfl
                have hFc := va_free (wc := [(q_this, .inr (12, [.ref q_town, .ref q_read, .ref q_now, .ref q_aside, .ref q_past, .int v_undos, .ref q_images, .ref q_kept, .long v_seed, .ref q_text, .int v_size, .int v_fault, .ref q_sights, .int v_sightMany, .ref q_book, .int v_bookMany, .int v_at, .int v_begin, .int v_sign, .int v_figures, .int v_value, .int v_wrong, .ref q_went, .ref q_free, .ref q_stands])), (q_town, .inl (cI, 27, .inl v_town)), (q_now, .inl (cI, 19, .inl v_now)), (q_stands, .inl (cI, 8, .inl w67.2.2.2))]) hD hS hA [2, 3, 0, 1] rfl
                refine va_calli (va_runV (As := [.int o87.2.2.2]) (rest := []) ⟨hx, hb, hml, hown, hts⟩ (tX12_pulledBy l dC dI cI cZ q_aside q_book q_free q_images q_kept q_now q_past q_read q_sights q_stands q_text q_this q_town q_went H.size v_undos v_seed v_size v_fault v_sightMany v_bookMany v_at v_begin v_sign v_figures v_value v_wrong v_town v_now w67.2.2.2 o87.2.2.2 y138 hc138) (cwV 1 hts gX12_best_X12_pulledBy rfl rfl rfl (by decide +kernel) ⟨Nat.le_of_ble_eq_true rfl, Nat.le_of_ble_eq_true rfl⟩) ⟨fun a U g mk q => by obtain ⟨q0, q1, qP, qK, qD⟩ := q; exact ⟨q0, q1, qP, va_K.moved (u := U) (U := U.calling g mk a) (Vm.Alike.refl U.vm) qK, qD⟩, va_recv hK hPc (ci := 12) (q0 := 0) rfl rfl, fun U hU hW => ⟨rfl, by rw [hU], by rw [hU]; exact hPc, va_K.moved hW.alike hK, hDc.weaken (fun _ _ _ _ => trivial)⟩⟩ rfl rfl hl.1 rfl (lv_room (Nat.le_of_ble_eq_true rfl)) dX12_best_138 ⟨Nat.le_of_ble_eq_true rfl, Nat.le_of_ble_eq_true rfl⟩) hS (fun q _ h => hFc q h) hFc (fun r138 u9 t9 H1 locs ht9 hvm9 hw9 hB9 hz9 hkk9 hS => ?_)
                have hw9 : y138.1 = r138 := hw9.symm
                subst hw9
                obtain ⟨hP9, hK9, hD9⟩ := hB9
                rw [ht9] at hP9
                obtain ⟨hP, hD⟩ := va_join (wr := []) (w1 := [(q_this, .inr (12, [.ref q_town, .ref q_read, .ref q_now, .ref q_aside, .ref q_past, .int v_undos, .ref q_images, .ref q_kept, .long v_seed, .ref q_text, .int v_size, .int v_fault, .ref q_sights, .int v_sightMany, .ref q_book, .int v_bookMany, .int v_at, .int v_begin, .int v_sign, .int v_figures, .int v_value, .int v_wrong, .ref q_went, .ref q_free, .ref q_stands])), (q_town, .inl (cI, 27, .inl v_town)), (q_now, .inl (cI, 19, .inl v_now)), (q_stands, .inl (cI, 8, .inl y138.2))]) hP hD [2, 3, 0, 1] [] rfl rfl (by decide) (by decide) hkk9 hFc hP9 hD9
                generalize H1 = H at hP hS ⊢
                have hP : va_P (dC, dI) vwCl [(q_this, .inr (12, [.ref q_town, .ref q_read, .ref q_now, .ref q_aside, .ref q_past, .int v_undos, .ref q_images, .ref q_kept, .long v_seed, .ref q_text, .int v_size, .int v_fault, .ref q_sights, .int v_sightMany, .ref q_book, .int v_bookMany, .int v_at, .int v_begin, .int v_sign, .int v_figures, .int v_value, .int v_wrong, .ref q_went, .ref q_free, .ref q_stands])), (q_town, .inl (cI, 27, .inl v_town)), (q_now, .inl (cI, 19, .inl v_now)), (q_stands, .inl (cI, 8, .inl y138.2))] H := hP
                have hD : va_D A [(q_this, .inr (12, [.ref q_town, .ref q_read, .ref q_now, .ref q_aside, .ref q_past, .int v_undos, .ref q_images, .ref q_kept, .long v_seed, .ref q_text, .int v_size, .int v_fault, .ref q_sights, .int v_sightMany, .ref q_book, .int v_bookMany, .int v_at, .int v_begin, .int v_sign, .int v_figures, .int v_value, .int v_wrong, .ref q_went, .ref q_free, .ref q_stands])), (q_town, .inl (cI, 27, .inl v_town)), (q_now, .inl (cI, 19, .inl v_now)), (q_stands, .inl (cI, 8, .inl y138.2))] := hD
                refine lv_istore (lv' := [(10, .int y138.1), (9, .int o87.2.1), (8, .int o87.2.2.1), (7, .int o87.2.2.2), (6, .int w67.1), (5, .int o46.2), (4, .int w67.2.1), (3, .int w67.2.2.1), (2, .int k67_0), (0, .ref q_this), (1, .int a1)]) hx hb dX12_best_141 hl (by decide) rfl (fun ls hl => ?_)
                refine lv_iload hx hb dX12_best_143 (lv_at hl 0 rfl) ?_
                refine lv_iload hx hb dX12_best_145 (lv_at hl 6 rfl) ?_
                refine lv_icmp_ge (tgt := 155) hx hb dX12_best_147 (by decide) (fun c21 => ?_) (fun c21 => ?_)
                · have hrun := oz_t hrun c21
                  refine lv_iload_n hx hb dX12_best_155 rfl (lv_at hl 7 rfl) ?_
                  refine lv_istore_n (lv' := [(3, .int w67.2.2.1), (10, .int y138.1), (9, .int o87.2.1), (8, .int o87.2.2.1), (7, .int o87.2.2.2), (6, .int w67.1), (5, .int o46.2), (4, .int w67.2.1), (2, .int k67_0), (0, .ref q_this), (1, .int a1)]) hx hb dX12_best_156 rfl hl (by decide) rfl (fun ls hl => ?_)
                  refine lv_iload hx hb dX12_best_157 (lv_at hl 1 rfl) ?_
                  refine lv_iload hx hb dX12_best_159 (lv_at hl 7 rfl) ?_
                  refine lv_icmp_ge (tgt := 169) hx hb dX12_best_161 (by decide) (fun c22 => ?_) (fun c22 => ?_)
                  · have hrun := oz_t hrun c22
                    refine lv_iload hx hb dX12_best_169 (lv_at hl 7 rfl) ?_
                    refine lv_istore (lv' := [(4, .int w67.2.1), (3, .int w67.2.2.1), (10, .int y138.1), (9, .int o87.2.1), (8, .int o87.2.2.1), (7, .int o87.2.2.2), (6, .int w67.1), (5, .int o46.2), (2, .int k67_0), (0, .ref q_this), (1, .int a1)]) hx hb dX12_best_171 hl (by decide) rfl (fun ls hl => ?_)
                    refine lv_iinc (v := (w67.1 + 1)) (lv' := [(6, .int (w67.1 + 1)), (4, .int w67.2.1), (3, .int w67.2.2.1), (10, .int y138.1), (9, .int o87.2.1), (8, .int o87.2.2.1), (7, .int o87.2.2.2), (5, .int o46.2), (2, .int k67_0), (0, .ref q_this), (1, .int a1)]) hx hb dX12_best_173 hl (k := 6) rfl rfl (by decide) rfl (fun ls hl => ?_)
                    refine lv_goto (tgt := 67) hx hb dX12_best_176 (by decide) ?_
                    have hr9 := Option.some.inj hrun
                    subst hr9
                    exact ih ((w67.1 + 1), w67.2.1, w67.2.2.1, y138.2) _ hnext hexit _ _ _ (hP.sub [0, 1, 2, 3] rfl) (hD.sub [0, 1, 2, 3] (by decide) rfl) hS (lv_sub hl [0, 7, 1, 2, 8, 9, 10] rfl)
                  · have hrun := oz_f hrun c22
                    refine lv_iload hx hb dX12_best_164 (lv_at hl 1 rfl) ?_
                    refine lv_goto (tgt := 171) hx hb dX12_best_166 (by decide) ?_
                    refine lv_istore (lv' := [(4, .int y138.1), (3, .int w67.2.2.1), (10, .int y138.1), (9, .int o87.2.1), (8, .int o87.2.2.1), (7, .int o87.2.2.2), (6, .int w67.1), (5, .int o46.2), (2, .int k67_0), (0, .ref q_this), (1, .int a1)]) hx hb dX12_best_171 hl (by decide) rfl (fun ls hl => ?_)
                    refine lv_iinc (v := (w67.1 + 1)) (lv' := [(6, .int (w67.1 + 1)), (4, .int y138.1), (3, .int w67.2.2.1), (10, .int y138.1), (9, .int o87.2.1), (8, .int o87.2.2.1), (7, .int o87.2.2.2), (5, .int o46.2), (2, .int k67_0), (0, .ref q_this), (1, .int a1)]) hx hb dX12_best_173 hl (k := 6) rfl rfl (by decide) rfl (fun ls hl => ?_)
                    refine lv_goto (tgt := 67) hx hb dX12_best_176 (by decide) ?_
                    have hr9 := Option.some.inj hrun
                    subst hr9
                    exact ih ((w67.1 + 1), y138.1, w67.2.2.1, y138.2) _ hnext hexit _ _ _ (hP.sub [0, 1, 2, 3] rfl) (hD.sub [0, 1, 2, 3] (by decide) rfl) hS (lv_sub hl [0, 7, 1, 2, 8, 9, 10] rfl)
                · have hrun := oz_f hrun c21
                  refine lv_iload hx hb dX12_best_150 (lv_at hl 3 rfl) ?_
                  refine lv_goto (tgt := 156) hx hb dX12_best_152 (by decide) ?_
                  refine lv_istore_n (lv' := [(3, .int o87.2.2.2), (10, .int y138.1), (9, .int o87.2.1), (8, .int o87.2.2.1), (7, .int o87.2.2.2), (6, .int w67.1), (5, .int o46.2), (4, .int w67.2.1), (2, .int k67_0), (0, .ref q_this), (1, .int a1)]) hx hb dX12_best_156 rfl hl (by decide) rfl (fun ls hl => ?_)
                  refine lv_iload hx hb dX12_best_157 (lv_at hl 1 rfl) ?_
                  refine lv_iload hx hb dX12_best_159 (lv_at hl 7 rfl) ?_
                  refine lv_icmp_ge (tgt := 169) hx hb dX12_best_161 (by decide) (fun c23 => ?_) (fun c23 => ?_)
                  · have hrun := oz_t hrun c23
                    refine lv_iload hx hb dX12_best_169 (lv_at hl 7 rfl) ?_
                    refine lv_istore (lv' := [(4, .int w67.2.1), (3, .int o87.2.2.2), (10, .int y138.1), (9, .int o87.2.1), (8, .int o87.2.2.1), (7, .int o87.2.2.2), (6, .int w67.1), (5, .int o46.2), (2, .int k67_0), (0, .ref q_this), (1, .int a1)]) hx hb dX12_best_171 hl (by decide) rfl (fun ls hl => ?_)
                    refine lv_iinc (v := (w67.1 + 1)) (lv' := [(6, .int (w67.1 + 1)), (4, .int w67.2.1), (3, .int o87.2.2.2), (10, .int y138.1), (9, .int o87.2.1), (8, .int o87.2.2.1), (7, .int o87.2.2.2), (5, .int o46.2), (2, .int k67_0), (0, .ref q_this), (1, .int a1)]) hx hb dX12_best_173 hl (k := 6) rfl rfl (by decide) rfl (fun ls hl => ?_)
                    refine lv_goto (tgt := 67) hx hb dX12_best_176 (by decide) ?_
                    have hr9 := Option.some.inj hrun
                    subst hr9
                    exact ih ((w67.1 + 1), w67.2.1, o87.2.2.2, y138.2) _ hnext hexit _ _ _ (hP.sub [0, 1, 2, 3] rfl) (hD.sub [0, 1, 2, 3] (by decide) rfl) hS (lv_sub hl [0, 7, 1, 2, 8, 9, 10] rfl)
                  · have hrun := oz_f hrun c23
                    refine lv_iload hx hb dX12_best_164 (lv_at hl 1 rfl) ?_
                    refine lv_goto (tgt := 171) hx hb dX12_best_166 (by decide) ?_
                    refine lv_istore (lv' := [(4, .int y138.1), (3, .int o87.2.2.2), (10, .int y138.1), (9, .int o87.2.1), (8, .int o87.2.2.1), (7, .int o87.2.2.2), (6, .int w67.1), (5, .int o46.2), (2, .int k67_0), (0, .ref q_this), (1, .int a1)]) hx hb dX12_best_171 hl (by decide) rfl (fun ls hl => ?_)
                    refine lv_iinc (v := (w67.1 + 1)) (lv' := [(6, .int (w67.1 + 1)), (4, .int y138.1), (3, .int o87.2.2.2), (10, .int y138.1), (9, .int o87.2.1), (8, .int o87.2.2.1), (7, .int o87.2.2.2), (5, .int o46.2), (2, .int k67_0), (0, .ref q_this), (1, .int a1)]) hx hb dX12_best_173 hl (k := 6) rfl rfl (by decide) rfl (fun ls hl => ?_)
                    refine lv_goto (tgt := 67) hx hb dX12_best_176 (by decide) ?_
                    have hr9 := Option.some.inj hrun
                    subst hr9
                    exact ih ((w67.1 + 1), y138.1, o87.2.2.2, y138.2) _ hnext hexit _ _ _ (hP.sub [0, 1, 2, 3] rfl) (hD.sub [0, 1, 2, 3] (by decide) rfl) hS (lv_sub hl [0, 7, 1, 2, 8, 9, 10] rfl)
        refine hL67 (v_town (Int32.toNatClampNeg 2)) oz_fuel (0, 100000000, (-1), v_stands) o67 hlp67 (fun H locs ls hP hD hS hl => ?_) _ _ _ (hP.sub [0, 1, 2, 3] rfl) (hD.sub [0, 1, 2, 3] (by decide) rfl) hS (lv_sub hl [0, 1, 2, 3, 4, 5, 6] rfl)
        have hP : va_P (dC, dI) vwCl [(q_this, .inr (12, [.ref q_town, .ref q_read, .ref q_now, .ref q_aside, .ref q_past, .int v_undos, .ref q_images, .ref q_kept, .long v_seed, .ref q_text, .int v_size, .int v_fault, .ref q_sights, .int v_sightMany, .ref q_book, .int v_bookMany, .int v_at, .int v_begin, .int v_sign, .int v_figures, .int v_value, .int v_wrong, .ref q_went, .ref q_free, .ref q_stands])), (q_town, .inl (cI, 27, .inl v_town)), (q_now, .inl (cI, 19, .inl v_now)), (q_stands, .inl (cI, 8, .inl o67.2.2.2))] H := hP
        have hD : va_D A [(q_this, .inr (12, [.ref q_town, .ref q_read, .ref q_now, .ref q_aside, .ref q_past, .int v_undos, .ref q_images, .ref q_kept, .long v_seed, .ref q_text, .int v_size, .int v_fault, .ref q_sights, .int v_sightMany, .ref q_book, .int v_bookMany, .int v_at, .int v_begin, .int v_sign, .int v_figures, .int v_value, .int v_wrong, .ref q_went, .ref q_free, .ref q_stands])), (q_town, .inl (cI, 27, .inl v_town)), (q_now, .inl (cI, 19, .inl v_now)), (q_stands, .inl (cI, 8, .inl o67.2.2.2))] := hD
        have hl : lv_has ls 11 [(6, .int o67.1), (5, .int o46.2), (4, .int o67.2.1), (3, .int o67.2.2.1), (2, .int (v_town (Int32.toNatClampNeg 2))), (0, .ref q_this), (1, .int a1)] := hl
        refine lv_iload_n hx hb dX12_best_179 rfl (lv_at hl 3 rfl) ?_
        refine lv_iconst (v := (-1)) hx hb dX12_best_180 (by decide) ?_
        refine lv_icmp_eq (tgt := 188) hx hb dX12_best_181 (by decide) (fun c24 => ?_) (fun c24 => ?_)
        · have hrun := oz_t hrun c24
          refine lv_iload_n hx hb dX12_best_188 rfl (lv_at hl 3 rfl) ?_
          refine lv_goto (tgt := 194) hx hb dX12_best_189 (by decide) ?_
          have ho9 := Option.some.inj hrun
          subst ho9
          have hP9 := hP.sub (ws' := [(q_this, .inr (12, [.ref q_town, .ref q_read, .ref q_now, .ref q_aside, .ref q_past, .int v_undos, .ref q_images, .ref q_kept, .long v_seed, .ref q_text, .int v_size, .int v_fault, .ref q_sights, .int v_sightMany, .ref q_book, .int v_bookMany, .int v_at, .int v_begin, .int v_sign, .int v_figures, .int v_value, .int v_wrong, .ref q_went, .ref q_free, .ref q_stands])), (q_town, .inl (cI, 27, .inl v_town)), (q_now, .inl (cI, 19, .inl v_now)), (q_stands, .inl (cI, 8, .inl o67.2.2.2))]) [0, 1, 2, 3] rfl
          have hD9 := hD.sub (ws' := [(q_this, .inr (12, [.ref q_town, .ref q_read, .ref q_now, .ref q_aside, .ref q_past, .int v_undos, .ref q_images, .ref q_kept, .long v_seed, .ref q_text, .int v_size, .int v_fault, .ref q_sights, .int v_sightMany, .ref q_book, .int v_bookMany, .int v_at, .int v_begin, .int v_sign, .int v_figures, .int v_value, .int v_wrong, .ref q_went, .ref q_free, .ref q_stands])), (q_town, .inl (cI, 27, .inl v_town)), (q_now, .inl (cI, 19, .inl v_now)), (q_stands, .inl (cI, 8, .inl o67.2.2.2))]) [0, 1, 2, 3] (by decide) rfl
          rw [hQ]
          exact W.iret (v := o67.2.2.1) hx hb hr (fun t ht hW => ⟨⟨o67.2.2.1, (), rfl, rfl, by rw [ht]; exact hP9, va_K.moved hW.alike hK, hD9⟩, hS.F ht⟩) hS.2.2 dX12_best_194
        · have hrun := oz_f hrun c24
          refine lv_iload_n hx hb dX12_best_184 rfl (lv_at hl 6 rfl) ?_
          refine lv_if_ne (tgt := 192) hx hb dX12_best_185 (by decide) (fun c25 => ?_) (fun c25 => ?_)
          · have hrun := oz_f hrun c25
            refine lv_iload hx hb dX12_best_192 (lv_at hl 2 rfl) ?_
            have ho9 := Option.some.inj hrun
            subst ho9
            have hP9 := hP.sub (ws' := [(q_this, .inr (12, [.ref q_town, .ref q_read, .ref q_now, .ref q_aside, .ref q_past, .int v_undos, .ref q_images, .ref q_kept, .long v_seed, .ref q_text, .int v_size, .int v_fault, .ref q_sights, .int v_sightMany, .ref q_book, .int v_bookMany, .int v_at, .int v_begin, .int v_sign, .int v_figures, .int v_value, .int v_wrong, .ref q_went, .ref q_free, .ref q_stands])), (q_town, .inl (cI, 27, .inl v_town)), (q_now, .inl (cI, 19, .inl v_now)), (q_stands, .inl (cI, 8, .inl o67.2.2.2))]) [0, 1, 2, 3] rfl
            have hD9 := hD.sub (ws' := [(q_this, .inr (12, [.ref q_town, .ref q_read, .ref q_now, .ref q_aside, .ref q_past, .int v_undos, .ref q_images, .ref q_kept, .long v_seed, .ref q_text, .int v_size, .int v_fault, .ref q_sights, .int v_sightMany, .ref q_book, .int v_bookMany, .int v_at, .int v_begin, .int v_sign, .int v_figures, .int v_value, .int v_wrong, .ref q_went, .ref q_free, .ref q_stands])), (q_town, .inl (cI, 27, .inl v_town)), (q_now, .inl (cI, 19, .inl v_now)), (q_stands, .inl (cI, 8, .inl o67.2.2.2))]) [0, 1, 2, 3] (by decide) rfl
            rw [hQ]
            exact W.iret (v := o67.2.1) hx hb hr (fun t ht hW => ⟨⟨o67.2.1, (), rfl, rfl, by rw [ht]; exact hP9, va_K.moved hW.alike hK, hD9⟩, hS.F ht⟩) hS.2.2 dX12_best_194
          · have hrun := oz_t hrun c25
            refine lv_iload_n hx hb dX12_best_188 rfl (lv_at hl 3 rfl) ?_
            refine lv_goto (tgt := 194) hx hb dX12_best_189 (by decide) ?_
            have ho9 := Option.some.inj hrun
            subst ho9
            have hP9 := hP.sub (ws' := [(q_this, .inr (12, [.ref q_town, .ref q_read, .ref q_now, .ref q_aside, .ref q_past, .int v_undos, .ref q_images, .ref q_kept, .long v_seed, .ref q_text, .int v_size, .int v_fault, .ref q_sights, .int v_sightMany, .ref q_book, .int v_bookMany, .int v_at, .int v_begin, .int v_sign, .int v_figures, .int v_value, .int v_wrong, .ref q_went, .ref q_free, .ref q_stands])), (q_town, .inl (cI, 27, .inl v_town)), (q_now, .inl (cI, 19, .inl v_now)), (q_stands, .inl (cI, 8, .inl o67.2.2.2))]) [0, 1, 2, 3] rfl
            have hD9 := hD.sub (ws' := [(q_this, .inr (12, [.ref q_town, .ref q_read, .ref q_now, .ref q_aside, .ref q_past, .int v_undos, .ref q_images, .ref q_kept, .long v_seed, .ref q_text, .int v_size, .int v_fault, .ref q_sights, .int v_sightMany, .ref q_book, .int v_bookMany, .int v_at, .int v_begin, .int v_sign, .int v_figures, .int v_value, .int v_wrong, .ref q_went, .ref q_free, .ref q_stands])), (q_town, .inl (cI, 27, .inl v_town)), (q_now, .inl (cI, 19, .inl v_now)), (q_stands, .inl (cI, 8, .inl o67.2.2.2))]) [0, 1, 2, 3] (by decide) rfl
            rw [hQ]
            exact W.iret (v := o67.2.2.1) hx hb hr (fun t ht hW => ⟨⟨o67.2.2.1, (), rfl, rfl, by rw [ht]; exact hP9, va_K.moved hW.alike hK, hD9⟩, hS.F ht⟩) hS.2.2 dX12_best_194
      · have hrun := oz_f hrun c14
        refine lv_iconst (v := 0) hx hb dX12_best_36 (by decide) ?_
        refine lv_goto (tgt := 41) hx hb dX12_best_37 (by decide) ?_
        refine lv_istore (lv' := [(5, .int 0), (4, .int 100000000), (3, .int (-1)), (2, .int (v_town (Int32.toNatClampNeg 2))), (0, .ref q_this), (1, .int a1)]) hx hb dX12_best_41 hl (by decide) rfl (fun ls hl => ?_)
        refine lv_iconst (v := 0) hx hb dX12_best_43 (by decide) ?_
        refine lv_istore (lv' := [(6, .int 0), (5, .int 0), (4, .int 100000000), (3, .int (-1)), (2, .int (v_town (Int32.toNatClampNeg 2))), (0, .ref q_this), (1, .int a1)]) hx hb dX12_best_44 hl (by decide) rfl (fun ls hl => ?_)
        obtain ⟨o46, hlp46, hrun⟩ := oz_bind hrun
        have hL46 : ∀ (k46_0 : Int32) (n : Nat) (w46 : Int32 × Int32) (o46 : Int32 × Int32), oz_loop (fX12_best_b46 k46_0) n w46 = some o46 → (∀ (H : Heap) (locs : List Loc) (ls : Array Slot), va_P (dC, dI) vwCl [(q_this, .inr (12, [.ref q_town, .ref q_read, .ref q_now, .ref q_aside, .ref q_past, .int v_undos, .ref q_images, .ref q_kept, .long v_seed, .ref q_text, .int v_size, .int v_fault, .ref q_sights, .int v_sightMany, .ref q_book, .int v_bookMany, .int v_at, .int v_begin, .int v_sign, .int v_figures, .int v_value, .int v_wrong, .ref q_went, .ref q_free, .ref q_stands])), (q_town, .inl (cI, 27, .inl v_town)), (q_now, .inl (cI, 19, .inl v_now)), (q_stands, .inl (cI, 8, .inl v_stands))] H → va_D A [(q_this, .inr (12, [.ref q_town, .ref q_read, .ref q_now, .ref q_aside, .ref q_past, .int v_undos, .ref q_images, .ref q_kept, .long v_seed, .ref q_text, .int v_size, .int v_fault, .ref q_sights, .int v_sightMany, .ref q_book, .int v_bookMany, .int v_at, .int v_begin, .int v_sign, .int v_figures, .int v_value, .int v_wrong, .ref q_went, .ref q_free, .ref q_stands])), (q_town, .inl (cI, 27, .inl v_town)), (q_now, .inl (cI, 19, .inl v_now)), (q_stands, .inl (cI, 8, .inl v_stands))] → va_S A s.heap H locs → lv_has ls 11 [(6, .int o46.1), (5, .int o46.2), (4, .int 100000000), (3, .int (-1)), (2, .int k46_0), (0, .ref q_this), (1, .int a1)] → W p l e (headSpec wsX12_best rmX12_best).room s m (([.ref q_this, .int a1] : List Value).toArray) below meth c H locs 0 0 Q (F0 m 64 ls [])) → ∀ (H : Heap) (locs : List Loc) (ls : Array Slot), va_P (dC, dI) vwCl [(q_this, .inr (12, [.ref q_town, .ref q_read, .ref q_now, .ref q_aside, .ref q_past, .int v_undos, .ref q_images, .ref q_kept, .long v_seed, .ref q_text, .int v_size, .int v_fault, .ref q_sights, .int v_sightMany, .ref q_book, .int v_bookMany, .int v_at, .int v_begin, .int v_sign, .int v_figures, .int v_value, .int v_wrong, .ref q_went, .ref q_free, .ref q_stands])), (q_town, .inl (cI, 27, .inl v_town)), (q_now, .inl (cI, 19, .inl v_now)), (q_stands, .inl (cI, 8, .inl v_stands))] H → va_D A [(q_this, .inr (12, [.ref q_town, .ref q_read, .ref q_now, .ref q_aside, .ref q_past, .int v_undos, .ref q_images, .ref q_kept, .long v_seed, .ref q_text, .int v_size, .int v_fault, .ref q_sights, .int v_sightMany, .ref q_book, .int v_bookMany, .int v_at, .int v_begin, .int v_sign, .int v_figures, .int v_value, .int v_wrong, .ref q_went, .ref q_free, .ref q_stands])), (q_town, .inl (cI, 27, .inl v_town)), (q_now, .inl (cI, 19, .inl v_now)), (q_stands, .inl (cI, 8, .inl v_stands))] → va_S A s.heap H locs → lv_has ls 11 [(6, .int w46.1), (5, .int w46.2), (4, .int 100000000), (3, .int (-1)), (2, .int k46_0), (0, .ref q_this), (1, .int a1)] → W p l e (headSpec wsX12_best rmX12_best).room s m (([.ref q_this, .int a1] : List Value).toArray) below meth c H locs 0 0 Q (F0 m 46 ls []) := by
          intro k46_0 n
          induction n with
          | zero => intro w46 o46 h9; exact (oz_zero h9).elim
          | succ n ih =>
            intro w46 o46 h9 hexit H locs ls hP hD hS hl
            obtain ⟨r9, hrun, hnext⟩ := oz_step h9
            unfold fX12_best_b46 at hrun
            refine lv_iload hx hb dX12_best_46 (lv_at hl 0 rfl) ?_
            refine lv_iload_n hx hb dX12_best_48 rfl (lv_at hl 4 rfl) ?_
            refine lv_icmp_ge (tgt := 64) hx hb dX12_best_49 (by decide) (fun c26 => ?_) (fun c26 => ?_)
            · have hrun := oz_t hrun c26
              have hr9 := Option.some.inj hrun
              subst hr9
              have ho9 : (w46.1, w46.2) = o46 := hnext
              subst ho9
              exact hexit _ _ _ (hP.sub [0, 1, 2, 3] rfl) (hD.sub [0, 1, 2, 3] (by decide) rfl) hS (lv_sub hl [0, 1, 2, 3, 4, 5, 6] rfl)
            · have hrun := oz_f hrun c26
              refine lv_iload hx hb dX12_best_52 (lv_at hl 1 rfl) ?_
              refine lv_iload_n hx hb dX12_best_54 rfl (lv_at hl 4 rfl) ?_
              refine lv_imul hx hb dX12_best_55 ?_
              refine lv_istore (lv' := [(5, .int (w46.2 * k46_0)), (6, .int w46.1), (4, .int 100000000), (3, .int (-1)), (2, .int k46_0), (0, .ref q_this), (1, .int a1)]) hx hb dX12_best_56 hl (by decide) rfl (fun ls hl => ?_)
              refine lv_iinc (v := (w46.1 + 1)) (lv' := [(6, .int (w46.1 + 1)), (5, .int (w46.2 * k46_0)), (4, .int 100000000), (3, .int (-1)), (2, .int k46_0), (0, .ref q_this), (1, .int a1)]) hx hb dX12_best_58 hl (k := 1) rfl rfl (by decide) rfl (fun ls hl => ?_)
              refine lv_goto (tgt := 46) hx hb dX12_best_61 (by decide) ?_
              have hr9 := Option.some.inj hrun
              subst hr9
              exact ih ((w46.1 + 1), (w46.2 * k46_0)) _ hnext hexit _ _ _ (hP.sub [0, 1, 2, 3] rfl) (hD.sub [0, 1, 2, 3] (by decide) rfl) hS (lv_sub hl [0, 1, 2, 3, 4, 5, 6] rfl)
        refine hL46 (v_town (Int32.toNatClampNeg 2)) oz_fuel (0, 0) o46 hlp46 (fun H locs ls hP hD hS hl => ?_) _ _ _ (hP.sub [0, 1, 2, 3] rfl) (hD.sub [0, 1, 2, 3] (by decide) rfl) hS (lv_sub hl [0, 1, 2, 3, 4, 5, 6] rfl)
        have hP : va_P (dC, dI) vwCl [(q_this, .inr (12, [.ref q_town, .ref q_read, .ref q_now, .ref q_aside, .ref q_past, .int v_undos, .ref q_images, .ref q_kept, .long v_seed, .ref q_text, .int v_size, .int v_fault, .ref q_sights, .int v_sightMany, .ref q_book, .int v_bookMany, .int v_at, .int v_begin, .int v_sign, .int v_figures, .int v_value, .int v_wrong, .ref q_went, .ref q_free, .ref q_stands])), (q_town, .inl (cI, 27, .inl v_town)), (q_now, .inl (cI, 19, .inl v_now)), (q_stands, .inl (cI, 8, .inl v_stands))] H := hP
        have hD : va_D A [(q_this, .inr (12, [.ref q_town, .ref q_read, .ref q_now, .ref q_aside, .ref q_past, .int v_undos, .ref q_images, .ref q_kept, .long v_seed, .ref q_text, .int v_size, .int v_fault, .ref q_sights, .int v_sightMany, .ref q_book, .int v_bookMany, .int v_at, .int v_begin, .int v_sign, .int v_figures, .int v_value, .int v_wrong, .ref q_went, .ref q_free, .ref q_stands])), (q_town, .inl (cI, 27, .inl v_town)), (q_now, .inl (cI, 19, .inl v_now)), (q_stands, .inl (cI, 8, .inl v_stands))] := hD
        have hl : lv_has ls 11 [(6, .int o46.1), (5, .int o46.2), (4, .int 100000000), (3, .int (-1)), (2, .int (v_town (Int32.toNatClampNeg 2))), (0, .ref q_this), (1, .int a1)] := hl
        refine lv_iconst (v := 0) hx hb dX12_best_64 (by decide) ?_
        refine lv_istore (lv' := [(6, .int 0), (5, .int o46.2), (4, .int 100000000), (3, .int (-1)), (2, .int (v_town (Int32.toNatClampNeg 2))), (0, .ref q_this), (1, .int a1)]) hx hb dX12_best_65 hl (by decide) rfl (fun ls hl => ?_)
        obtain ⟨o67, hlp67, hrun⟩ := oz_bind hrun
        have hL67 : ∀ (k67_0 : Int32) (n : Nat) (w67 : Int32 × Int32 × Int32 × (Nat → Int32)) (o67 : Int32 × Int32 × Int32 × (Nat → Int32)), oz_loop (fX12_best_b67 v_town v_now k67_0 o46) n w67 = some o67 → (∀ (H : Heap) (locs : List Loc) (ls : Array Slot), va_P (dC, dI) vwCl [(q_this, .inr (12, [.ref q_town, .ref q_read, .ref q_now, .ref q_aside, .ref q_past, .int v_undos, .ref q_images, .ref q_kept, .long v_seed, .ref q_text, .int v_size, .int v_fault, .ref q_sights, .int v_sightMany, .ref q_book, .int v_bookMany, .int v_at, .int v_begin, .int v_sign, .int v_figures, .int v_value, .int v_wrong, .ref q_went, .ref q_free, .ref q_stands])), (q_town, .inl (cI, 27, .inl v_town)), (q_now, .inl (cI, 19, .inl v_now)), (q_stands, .inl (cI, 8, .inl o67.2.2.2))] H → va_D A [(q_this, .inr (12, [.ref q_town, .ref q_read, .ref q_now, .ref q_aside, .ref q_past, .int v_undos, .ref q_images, .ref q_kept, .long v_seed, .ref q_text, .int v_size, .int v_fault, .ref q_sights, .int v_sightMany, .ref q_book, .int v_bookMany, .int v_at, .int v_begin, .int v_sign, .int v_figures, .int v_value, .int v_wrong, .ref q_went, .ref q_free, .ref q_stands])), (q_town, .inl (cI, 27, .inl v_town)), (q_now, .inl (cI, 19, .inl v_now)), (q_stands, .inl (cI, 8, .inl o67.2.2.2))] → va_S A s.heap H locs → lv_has ls 11 [(6, .int o67.1), (5, .int o46.2), (4, .int o67.2.1), (3, .int o67.2.2.1), (2, .int k67_0), (0, .ref q_this), (1, .int a1)] → W p l e (headSpec wsX12_best rmX12_best).room s m (([.ref q_this, .int a1] : List Value).toArray) below meth c H locs 0 0 Q (F0 m 179 ls [])) → ∀ (H : Heap) (locs : List Loc) (ls : Array Slot), va_P (dC, dI) vwCl [(q_this, .inr (12, [.ref q_town, .ref q_read, .ref q_now, .ref q_aside, .ref q_past, .int v_undos, .ref q_images, .ref q_kept, .long v_seed, .ref q_text, .int v_size, .int v_fault, .ref q_sights, .int v_sightMany, .ref q_book, .int v_bookMany, .int v_at, .int v_begin, .int v_sign, .int v_figures, .int v_value, .int v_wrong, .ref q_went, .ref q_free, .ref q_stands])), (q_town, .inl (cI, 27, .inl v_town)), (q_now, .inl (cI, 19, .inl v_now)), (q_stands, .inl (cI, 8, .inl w67.2.2.2))] H → va_D A [(q_this, .inr (12, [.ref q_town, .ref q_read, .ref q_now, .ref q_aside, .ref q_past, .int v_undos, .ref q_images, .ref q_kept, .long v_seed, .ref q_text, .int v_size, .int v_fault, .ref q_sights, .int v_sightMany, .ref q_book, .int v_bookMany, .int v_at, .int v_begin, .int v_sign, .int v_figures, .int v_value, .int v_wrong, .ref q_went, .ref q_free, .ref q_stands])), (q_town, .inl (cI, 27, .inl v_town)), (q_now, .inl (cI, 19, .inl v_now)), (q_stands, .inl (cI, 8, .inl w67.2.2.2))] → va_S A s.heap H locs → lv_has ls 11 [(6, .int w67.1), (5, .int o46.2), (4, .int w67.2.1), (3, .int w67.2.2.1), (2, .int k67_0), (0, .ref q_this), (1, .int a1)] → W p l e (headSpec wsX12_best rmX12_best).room s m (([.ref q_this, .int a1] : List Value).toArray) below meth c H locs 0 0 Q (F0 m 67 ls []) := by
          intro k67_0 n
          induction n with
          | zero => intro w67 o67 h9; exact (oz_zero h9).elim
          | succ n ih =>
            intro w67 o67 h9 hexit H locs ls hP hD hS hl
            obtain ⟨r9, hrun, hnext⟩ := oz_step h9
            unfold fX12_best_b67 at hrun
            refine lv_iload hx hb dX12_best_67 (lv_at hl 0 rfl) ?_
            refine lv_iload hx hb dX12_best_69 (lv_at hl 1 rfl) ?_
            refine lv_icmp_ge (tgt := 179) hx hb dX12_best_71 (by decide) (fun c27 => ?_) (fun c27 => ?_)
            · have hrun := oz_t hrun c27
              have hr9 := Option.some.inj hrun
              subst hr9
              have ho9 : (w67.1, w67.2.1, w67.2.2.1, w67.2.2.2) = o67 := hnext
              subst ho9
              exact hexit _ _ _ (hP.sub [0, 1, 2, 3] rfl) (hD.sub [0, 1, 2, 3] (by decide) rfl) hS (lv_sub hl [0, 1, 2, 3, 4, 5, 6] rfl)
            · have hrun := oz_f hrun c27
              refine lv_iconst (v := 0) hx hb dX12_best_74 (by decide) ?_
              refine lv_istore (lv' := [(7, .int 0), (6, .int w67.1), (5, .int o46.2), (4, .int w67.2.1), (3, .int w67.2.2.1), (2, .int k67_0), (0, .ref q_this), (1, .int a1)]) hx hb dX12_best_75 hl (by decide) rfl (fun ls hl => ?_)
              refine lv_iload hx hb dX12_best_77 (lv_at hl 1 rfl) ?_
              refine lv_istore (lv' := [(8, .int w67.1), (7, .int 0), (6, .int w67.1), (5, .int o46.2), (4, .int w67.2.1), (3, .int w67.2.2.1), (2, .int k67_0), (0, .ref q_this), (1, .int a1)]) hx hb dX12_best_79 hl (by decide) rfl (fun ls hl => ?_)
              refine lv_iconst (v := 1) hx hb dX12_best_81 (by decide) ?_
              refine lv_istore (lv' := [(9, .int 1), (8, .int w67.1), (7, .int 0), (6, .int w67.1), (5, .int o46.2), (4, .int w67.2.1), (3, .int w67.2.2.1), (2, .int k67_0), (0, .ref q_this), (1, .int a1)]) hx hb dX12_best_82 hl (by decide) rfl (fun ls hl => ?_)
              refine lv_iconst (v := 0) hx hb dX12_best_84 (by decide) ?_
              refine lv_istore (lv' := [(10, .int 0), (9, .int 1), (8, .int w67.1), (7, .int 0), (6, .int w67.1), (5, .int o46.2), (4, .int w67.2.1), (3, .int w67.2.2.1), (2, .int k67_0), (0, .ref q_this), (1, .int a1)]) hx hb dX12_best_85 hl (by decide) rfl (fun ls hl => ?_)
              obtain ⟨o87, hlp87, hrun⟩ := oz_bind hrun
              have hL87 : ∀ (n : Nat) (w87 : Int32 × Int32 × Int32 × Int32) (o87 : Int32 × Int32 × Int32 × Int32), oz_loop (fX12_best_b87 k67_0) n w87 = some o87 → (∀ (H : Heap) (locs : List Loc) (ls : Array Slot), va_P (dC, dI) vwCl [(q_this, .inr (12, [.ref q_town, .ref q_read, .ref q_now, .ref q_aside, .ref q_past, .int v_undos, .ref q_images, .ref q_kept, .long v_seed, .ref q_text, .int v_size, .int v_fault, .ref q_sights, .int v_sightMany, .ref q_book, .int v_bookMany, .int v_at, .int v_begin, .int v_sign, .int v_figures, .int v_value, .int v_wrong, .ref q_went, .ref q_free, .ref q_stands])), (q_town, .inl (cI, 27, .inl v_town)), (q_now, .inl (cI, 19, .inl v_now)), (q_stands, .inl (cI, 8, .inl w67.2.2.2))] H → va_D A [(q_this, .inr (12, [.ref q_town, .ref q_read, .ref q_now, .ref q_aside, .ref q_past, .int v_undos, .ref q_images, .ref q_kept, .long v_seed, .ref q_text, .int v_size, .int v_fault, .ref q_sights, .int v_sightMany, .ref q_book, .int v_bookMany, .int v_at, .int v_begin, .int v_sign, .int v_figures, .int v_value, .int v_wrong, .ref q_went, .ref q_free, .ref q_stands])), (q_town, .inl (cI, 27, .inl v_town)), (q_now, .inl (cI, 19, .inl v_now)), (q_stands, .inl (cI, 8, .inl w67.2.2.2))] → va_S A s.heap H locs → lv_has ls 11 [(10, .int o87.1), (9, .int o87.2.1), (8, .int o87.2.2.1), (7, .int o87.2.2.2), (6, .int w67.1), (5, .int o46.2), (4, .int w67.2.1), (3, .int w67.2.2.1), (2, .int k67_0), (0, .ref q_this), (1, .int a1)] → W p l e (headSpec wsX12_best rmX12_best).room s m (([.ref q_this, .int a1] : List Value).toArray) below meth c H locs 0 0 Q (F0 m 126 ls [])) → ∀ (H : Heap) (locs : List Loc) (ls : Array Slot), va_P (dC, dI) vwCl [(q_this, .inr (12, [.ref q_town, .ref q_read, .ref q_now, .ref q_aside, .ref q_past, .int v_undos, .ref q_images, .ref q_kept, .long v_seed, .ref q_text, .int v_size, .int v_fault, .ref q_sights, .int v_sightMany, .ref q_book, .int v_bookMany, .int v_at, .int v_begin, .int v_sign, .int v_figures, .int v_value, .int v_wrong, .ref q_went, .ref q_free, .ref q_stands])), (q_town, .inl (cI, 27, .inl v_town)), (q_now, .inl (cI, 19, .inl v_now)), (q_stands, .inl (cI, 8, .inl w67.2.2.2))] H → va_D A [(q_this, .inr (12, [.ref q_town, .ref q_read, .ref q_now, .ref q_aside, .ref q_past, .int v_undos, .ref q_images, .ref q_kept, .long v_seed, .ref q_text, .int v_size, .int v_fault, .ref q_sights, .int v_sightMany, .ref q_book, .int v_bookMany, .int v_at, .int v_begin, .int v_sign, .int v_figures, .int v_value, .int v_wrong, .ref q_went, .ref q_free, .ref q_stands])), (q_town, .inl (cI, 27, .inl v_town)), (q_now, .inl (cI, 19, .inl v_now)), (q_stands, .inl (cI, 8, .inl w67.2.2.2))] → va_S A s.heap H locs → lv_has ls 11 [(10, .int w87.1), (9, .int w87.2.1), (8, .int w87.2.2.1), (7, .int w87.2.2.2), (6, .int w67.1), (5, .int o46.2), (4, .int w67.2.1), (3, .int w67.2.2.1), (2, .int k67_0), (0, .ref q_this), (1, .int a1)] → W p l e (headSpec wsX12_best rmX12_best).room s m (([.ref q_this, .int a1] : List Value).toArray) below meth c H locs 0 0 Q (F0 m 87 ls []) := by
                intro n
                induction n with
                | zero => intro w87 o87 h9; exact (oz_zero h9).elim
                | succ n ih =>
                  intro w87 o87 h9 hexit H locs ls hP hD hS hl
                  obtain ⟨r9, hrun, hnext⟩ := oz_step h9
                  unfold fX12_best_b87 at hrun
                  refine lv_iload hx hb dX12_best_87 (lv_at hl 0 rfl) ?_
                  refine lv_iload_n hx hb dX12_best_89 rfl (lv_at hl 8 rfl) ?_
                  refine lv_icmp_ge (tgt := 126) hx hb dX12_best_90 (by decide) (fun c28 => ?_) (fun c28 => ?_)
                  · have hrun := oz_t hrun c28
                    have hr9 := Option.some.inj hrun
                    subst hr9
                    have ho9 : (w87.1, w87.2.1, w87.2.2.1, w87.2.2.2) = o87 := hnext
                    subst ho9
                    exact hexit _ _ _ (hP.sub [0, 1, 2, 3] rfl) (hD.sub [0, 1, 2, 3] (by decide) rfl) hS (lv_sub hl [0, 1, 2, 3, 4, 5, 6, 7, 8, 9, 10] rfl)
                  · have hrun := oz_f hrun c28
                    refine lv_iload hx hb dX12_best_93 (lv_at hl 3 rfl) ?_
                    refine lv_iload hx hb dX12_best_95 (lv_at hl 1 rfl) ?_
                    refine lv_iload hx hb dX12_best_97 (lv_at hl 2 rfl) ?_
                    refine lv_iload_n hx hb dX12_best_99 rfl (lv_at hl 8 rfl) ?_
                    obtain ⟨c29, hrun⟩ := oz_chk hrun
                    refine lv_irem hx hb dX12_best_100 c29 ?_
                    refine lv_iconst (v := 1) hx hb dX12_best_101 (by decide) ?_
                    refine lv_iadd hx hb dX12_best_102 ?_
                    refine lv_imul hx hb dX12_best_103 ?_
                    refine lv_iadd hx hb dX12_best_104 ?_
                    refine lv_istore (lv' := [(7, .int (w87.2.2.2 + (w87.2.1 * ((w87.2.2.1 - w87.2.2.1 / k67_0 * k67_0) + 1)))), (10, .int w87.1), (9, .int w87.2.1), (8, .int w87.2.2.1), (6, .int w67.1), (5, .int o46.2), (4, .int w67.2.1), (3, .int w67.2.2.1), (2, .int k67_0), (0, .ref q_this), (1, .int a1)]) hx hb dX12_best_105 hl (by decide) rfl (fun ls hl => ?_)
                    refine lv_iload hx hb dX12_best_107 (lv_at hl 3 rfl) ?_
                    refine lv_iload_n hx hb dX12_best_109 rfl (lv_at hl 8 rfl) ?_
                    obtain ⟨c30, hrun⟩ := oz_chk hrun
                    refine lv_idiv hx hb dX12_best_110 c30 ?_
                    refine lv_istore (lv' := [(8, .int (w87.2.2.1 / k67_0)), (7, .int (w87.2.2.2 + (w87.2.1 * ((w87.2.2.1 - w87.2.2.1 / k67_0 * k67_0) + 1)))), (10, .int w87.1), (9, .int w87.2.1), (6, .int w67.1), (5, .int o46.2), (4, .int w67.2.1), (3, .int w67.2.2.1), (2, .int k67_0), (0, .ref q_this), (1, .int a1)]) hx hb dX12_best_111 hl (by decide) rfl (fun ls hl => ?_)
                    refine lv_iload hx hb dX12_best_113 (lv_at hl 3 rfl) ?_
                    refine lv_bipush (v := 10) hx hb dX12_best_115 (by decide) ?_
                    refine lv_imul hx hb dX12_best_117 ?_
                    refine lv_istore (lv' := [(9, .int (w87.2.1 * 10)), (8, .int (w87.2.2.1 / k67_0)), (7, .int (w87.2.2.2 + (w87.2.1 * ((w87.2.2.1 - w87.2.2.1 / k67_0 * k67_0) + 1)))), (10, .int w87.1), (6, .int w67.1), (5, .int o46.2), (4, .int w67.2.1), (3, .int w67.2.2.1), (2, .int k67_0), (0, .ref q_this), (1, .int a1)]) hx hb dX12_best_118 hl (by decide) rfl (fun ls hl => ?_)
                    refine lv_iinc (v := (w87.1 + 1)) (lv' := [(10, .int (w87.1 + 1)), (9, .int (w87.2.1 * 10)), (8, .int (w87.2.2.1 / k67_0)), (7, .int (w87.2.2.2 + (w87.2.1 * ((w87.2.2.1 - w87.2.2.1 / k67_0 * k67_0) + 1)))), (6, .int w67.1), (5, .int o46.2), (4, .int w67.2.1), (3, .int w67.2.2.1), (2, .int k67_0), (0, .ref q_this), (1, .int a1)]) hx hb dX12_best_120 hl (k := 3) rfl rfl (by decide) rfl (fun ls hl => ?_)
                    refine lv_goto (tgt := 87) hx hb dX12_best_123 (by decide) ?_
                    have hr9 := Option.some.inj hrun
                    subst hr9
                    exact ih ((w87.1 + 1), (w87.2.1 * 10), (w87.2.2.1 / k67_0), (w87.2.2.2 + (w87.2.1 * ((w87.2.2.1 - w87.2.2.1 / k67_0 * k67_0) + 1)))) _ hnext hexit _ _ _ (hP.sub [0, 1, 2, 3] rfl) (hD.sub [0, 1, 2, 3] (by decide) rfl) hS (lv_sub hl [0, 1, 2, 3, 4, 5, 6, 7, 8, 9, 10] rfl)
              refine hL87 oz_fuel (0, 1, w67.1, 0) o87 hlp87 (fun H locs ls hP hD hS hl => ?_) _ _ _ (hP.sub [0, 1, 2, 3] rfl) (hD.sub [0, 1, 2, 3] (by decide) rfl) hS (lv_sub hl [0, 1, 2, 3, 4, 5, 6, 7, 8, 9, 10] rfl)
              have hP : va_P (dC, dI) vwCl [(q_this, .inr (12, [.ref q_town, .ref q_read, .ref q_now, .ref q_aside, .ref q_past, .int v_undos, .ref q_images, .ref q_kept, .long v_seed, .ref q_text, .int v_size, .int v_fault, .ref q_sights, .int v_sightMany, .ref q_book, .int v_bookMany, .int v_at, .int v_begin, .int v_sign, .int v_figures, .int v_value, .int v_wrong, .ref q_went, .ref q_free, .ref q_stands])), (q_town, .inl (cI, 27, .inl v_town)), (q_now, .inl (cI, 19, .inl v_now)), (q_stands, .inl (cI, 8, .inl w67.2.2.2))] H := hP
              have hD : va_D A [(q_this, .inr (12, [.ref q_town, .ref q_read, .ref q_now, .ref q_aside, .ref q_past, .int v_undos, .ref q_images, .ref q_kept, .long v_seed, .ref q_text, .int v_size, .int v_fault, .ref q_sights, .int v_sightMany, .ref q_book, .int v_bookMany, .int v_at, .int v_begin, .int v_sign, .int v_figures, .int v_value, .int v_wrong, .ref q_went, .ref q_free, .ref q_stands])), (q_town, .inl (cI, 27, .inl v_town)), (q_now, .inl (cI, 19, .inl v_now)), (q_stands, .inl (cI, 8, .inl w67.2.2.2))] := hD
              have hl : lv_has ls 11 [(10, .int o87.1), (9, .int o87.2.1), (8, .int o87.2.2.1), (7, .int o87.2.2.2), (6, .int w67.1), (5, .int o46.2), (4, .int w67.2.1), (3, .int w67.2.2.1), (2, .int k67_0), (0, .ref q_this), (1, .int a1)] := hl
              refine lv_aload_n hx hb dX12_best_126 rfl (lv_at hl 9 rfl) ?_
              refine lv_iload hx hb dX12_best_127 (lv_at hl 3 rfl) ?_
              obtain ⟨y129, hc129, hrun⟩ := oz_bind hrun
              have hPc := hP.sub (ws' := [(q_this, .inr (12, [.ref q_town, .ref q_read, .ref q_now, .ref q_aside, .ref q_past, .int v_undos, .ref q_images, .ref q_kept, .long v_seed, .ref q_text, .int v_size, .int v_fault, .ref q_sights, .int v_sightMany, .ref q_book, .int v_bookMany, .int v_at, .int v_begin, .int v_sign, .int v_figures, .int v_value, .int v_wrong, .ref q_went, .ref q_free, .ref q_stands])), (q_town, .inl (cI, 27, .inl v_town))]) [0, 1] rfl
              have hDc := hD.sub (ws' := [(q_this, .inr (12, [.ref q_town, .ref q_read, .ref q_now, .ref q_aside, .ref q_past, .int v_undos, .ref q_images, .ref q_kept, .long v_seed, .ref q_text, .int v_size, .int v_fault, .ref q_sights, .int v_sightMany, .ref q_book, .int v_bookMany, .int v_at, .int v_begin, .int v_sign, .int v_figures, .int v_value, .int v_wrong, .ref q_went, .ref q_free, .ref q_stands])), (q_town, .inl (cI, 27, .inl v_town))]) [0, 1] (by decide) rfl
              have hFc := va_free (wc := [(q_this, .inr (12, [.ref q_town, .ref q_read, .ref q_now, .ref q_aside, .ref q_past, .int v_undos, .ref q_images, .ref q_kept, .long v_seed, .ref q_text, .int v_size, .int v_fault, .ref q_sights, .int v_sightMany, .ref q_book, .int v_bookMany, .int v_at, .int v_begin, .int v_sign, .int v_figures, .int v_value, .int v_wrong, .ref q_went, .ref q_free, .ref q_stands])), (q_town, .inl (cI, 27, .inl v_town))]) hD hS hA [0, 1] rfl
              refine va_calli (va_runV (As := [.int o87.2.2.2]) (rest := []) ⟨hx, hb, hml, hown, hts⟩ (tX12_isOrder l dC dI cI cZ q_aside q_book q_free q_images q_kept q_now q_past q_read q_sights q_stands q_text q_this q_town q_went H.size v_undos v_seed v_size v_fault v_sightMany v_bookMany v_at v_begin v_sign v_figures v_value v_wrong v_town o87.2.2.2 y129 hc129) (cwV 1 hts gX12_best_X12_isOrder rfl rfl rfl (by decide +kernel) ⟨Nat.le_of_ble_eq_true rfl, Nat.le_of_ble_eq_true rfl⟩) ⟨fun a U g mk q => by obtain ⟨q0, q1, qP, qK, qD⟩ := q; exact ⟨q0, q1, qP, va_K.moved (u := U) (U := U.calling g mk a) (Vm.Alike.refl U.vm) qK, qD⟩, va_recv hK hPc (ci := 12) (q0 := 0) rfl rfl, fun U hU hW => ⟨rfl, by rw [hU], by rw [hU]; exact hPc, va_K.moved hW.alike hK, hDc.weaken (fun _ _ _ _ => trivial)⟩⟩ rfl rfl hl.1 rfl (lv_room (Nat.le_of_ble_eq_true rfl)) dX12_best_129 ⟨Nat.le_of_ble_eq_true rfl, Nat.le_of_ble_eq_true rfl⟩) hS (fun q _ h => hFc q h) hFc (fun r129 u9 t9 H1 locs ht9 hvm9 hw9 hB9 hz9 hkk9 hS => ?_)
              have hw9 : y129 = r129 := hw9.symm
              subst hw9
              obtain ⟨hP9, hK9, hD9⟩ := hB9
              rw [ht9] at hP9
              obtain ⟨hP, hD⟩ := va_join (wr := [(q_now, .inl (cI, 19, .inl v_now)), (q_stands, .inl (cI, 8, .inl w67.2.2.2))]) (w1 := [(q_this, .inr (12, [.ref q_town, .ref q_read, .ref q_now, .ref q_aside, .ref q_past, .int v_undos, .ref q_images, .ref q_kept, .long v_seed, .ref q_text, .int v_size, .int v_fault, .ref q_sights, .int v_sightMany, .ref q_book, .int v_bookMany, .int v_at, .int v_begin, .int v_sign, .int v_figures, .int v_value, .int v_wrong, .ref q_went, .ref q_free, .ref q_stands])), (q_town, .inl (cI, 27, .inl v_town))]) hP hD [0, 1] [2, 3] rfl rfl (by decide) (by decide) hkk9 hFc hP9 hD9
              generalize H1 = H at hP hS ⊢
              have hP : va_P (dC, dI) vwCl [(q_now, .inl (cI, 19, .inl v_now)), (q_stands, .inl (cI, 8, .inl w67.2.2.2)), (q_this, .inr (12, [.ref q_town, .ref q_read, .ref q_now, .ref q_aside, .ref q_past, .int v_undos, .ref q_images, .ref q_kept, .long v_seed, .ref q_text, .int v_size, .int v_fault, .ref q_sights, .int v_sightMany, .ref q_book, .int v_bookMany, .int v_at, .int v_begin, .int v_sign, .int v_figures, .int v_value, .int v_wrong, .ref q_went, .ref q_free, .ref q_stands])), (q_town, .inl (cI, 27, .inl v_town))] H := hP
              have hD : va_D A [(q_now, .inl (cI, 19, .inl v_now)), (q_stands, .inl (cI, 8, .inl w67.2.2.2)), (q_this, .inr (12, [.ref q_town, .ref q_read, .ref q_now, .ref q_aside, .ref q_past, .int v_undos, .ref q_images, .ref q_kept, .long v_seed, .ref q_text, .int v_size, .int v_fault, .ref q_sights, .int v_sightMany, .ref q_book, .int v_bookMany, .int v_at, .int v_begin, .int v_sign, .int v_figures, .int v_value, .int v_wrong, .ref q_went, .ref q_free, .ref q_stands])), (q_town, .inl (cI, 27, .inl v_town))] := hD
              refine lv_if_eq (tgt := 173) hx hb dX12_best_132 (by decide) (fun c31 => ?_) (fun c31 => ?_)
              · have hrun := oz_t hrun c31
                refine lv_iinc (v := (w67.1 + 1)) (lv' := [(6, .int (w67.1 + 1)), (10, .int o87.1), (9, .int o87.2.1), (8, .int o87.2.2.1), (7, .int o87.2.2.2), (5, .int o46.2), (4, .int w67.2.1), (3, .int w67.2.2.1), (2, .int k67_0), (0, .ref q_this), (1, .int a1)]) hx hb dX12_best_173 hl (k := 4) rfl rfl (by decide) rfl (fun ls hl => ?_)
                refine lv_goto (tgt := 67) hx hb dX12_best_176 (by decide) ?_
                have hr9 := Option.some.inj hrun
                subst hr9
                exact ih ((w67.1 + 1), w67.2.1, w67.2.2.1, w67.2.2.2) _ hnext hexit _ _ _ (hP.sub [2, 3, 0, 1] rfl) (hD.sub [2, 3, 0, 1] (by decide) rfl) hS (lv_sub hl [0, 5, 6, 7, 8, 9, 10] rfl)
              · have hrun := oz_f hrun c31
                refine lv_aload_n hx hb dX12_best_135 rfl (lv_at hl 9 rfl) ?_
                refine lv_iload hx hb dX12_best_136 (lv_at hl 3 rfl) ?_
                obtain ⟨y138, hc138, hrun⟩ := oz_bind hrun
                have hPc := hP.sub (ws' := [(q_this, .inr (12, [.ref q_town, .ref q_read, .ref q_now, .ref q_aside, .ref q_past, .int v_undos, .ref q_images, .ref q_kept, .long v_seed, .ref q_text, .int v_size, .int v_fault, .ref q_sights, .int v_sightMany, .ref q_book, .int v_bookMany, .int v_at, .int v_begin, .int v_sign, .int v_figures, .int v_value, .int v_wrong, .ref q_went, .ref q_free, .ref q_stands])), (q_town, .inl (cI, 27, .inl v_town)), (q_now, .inl (cI, 19, .inl v_now)), (q_stands, .inl (cI, 8, .inl w67.2.2.2))]) [2, 3, 0, 1] rfl
                have hDc := hD.sub (ws' := [(q_this, .inr (12, [.ref q_town, .ref q_read, .ref q_now, .ref q_aside, .ref q_past, .int v_undos, .ref q_images, .ref q_kept, .long v_seed, .ref q_text, .int v_size, .int v_fault, .ref q_sights, .int v_sightMany, .ref q_book, .int v_bookMany, .int v_at, .int v_begin, .int v_sign, .int v_figures, .int v_value, .int v_wrong, .ref q_went, .ref q_free, .ref q_stands])), (q_town, .inl (cI, 27, .inl v_town)), (q_now, .inl (cI, 19, .inl v_now)), (q_stands, .inl (cI, 8, .inl w67.2.2.2))]) [2, 3, 0, 1] (by decide) rfl
                have hFc := va_free (wc := [(q_this, .inr (12, [.ref q_town, .ref q_read, .ref q_now, .ref q_aside, .ref q_past, .int v_undos, .ref q_images, .ref q_kept, .long v_seed, .ref q_text, .int v_size, .int v_fault, .ref q_sights, .int v_sightMany, .ref q_book, .int v_bookMany, .int v_at, .int v_begin, .int v_sign, .int v_figures, .int v_value, .int v_wrong, .ref q_went, .ref q_free, .ref q_stands])), (q_town, .inl (cI, 27, .inl v_town)), (q_now, .inl (cI, 19, .inl v_now)), (q_stands, .inl (cI, 8, .inl w67.2.2.2))]) hD hS hA [2, 3, 0, 1] rfl
                refine va_calli (va_runV (As := [.int o87.2.2.2]) (rest := []) ⟨hx, hb, hml, hown, hts⟩ (tX12_pulledBy l dC dI cI cZ q_aside q_book q_free q_images q_kept q_now q_past q_read q_sights q_stands q_text q_this q_town q_went H.size v_undos v_seed v_size v_fault v_sightMany v_bookMany v_at v_begin v_sign v_figures v_value v_wrong v_town v_now w67.2.2.2 o87.2.2.2 y138 hc138) (cwV 1 hts gX12_best_X12_pulledBy rfl rfl rfl (by decide +kernel) ⟨Nat.le_of_ble_eq_true rfl, Nat.le_of_ble_eq_true rfl⟩) ⟨fun a U g mk q => by obtain ⟨q0, q1, qP, qK, qD⟩ := q; exact ⟨q0, q1, qP, va_K.moved (u := U) (U := U.calling g mk a) (Vm.Alike.refl U.vm) qK, qD⟩, va_recv hK hPc (ci := 12) (q0 := 0) rfl rfl, fun U hU hW => ⟨rfl, by rw [hU], by rw [hU]; exact hPc, va_K.moved hW.alike hK, hDc.weaken (fun _ _ _ _ => trivial)⟩⟩ rfl rfl hl.1 rfl (lv_room (Nat.le_of_ble_eq_true rfl)) dX12_best_138 ⟨Nat.le_of_ble_eq_true rfl, Nat.le_of_ble_eq_true rfl⟩) hS (fun q _ h => hFc q h) hFc (fun r138 u9 t9 H1 locs ht9 hvm9 hw9 hB9 hz9 hkk9 hS => ?_)
                have hw9 : y138.1 = r138 := hw9.symm
                subst hw9
                obtain ⟨hP9, hK9, hD9⟩ := hB9
                rw [ht9] at hP9
                obtain ⟨hP, hD⟩ := va_join (wr := []) (w1 := [(q_this, .inr (12, [.ref q_town, .ref q_read, .ref q_now, .ref q_aside, .ref q_past, .int v_undos, .ref q_images, .ref q_kept, .long v_seed, .ref q_text, .int v_size, .int v_fault, .ref q_sights, .int v_sightMany, .ref q_book, .int v_bookMany, .int v_at, .int v_begin, .int v_sign, .int v_figures, .int v_value, .int v_wrong, .ref q_went, .ref q_free, .ref q_stands])), (q_town, .inl (cI, 27, .inl v_town)), (q_now, .inl (cI, 19, .inl v_now)), (q_stands, .inl (cI, 8, .inl y138.2))]) hP hD [2, 3, 0, 1] [] rfl rfl (by decide) (by decide) hkk9 hFc hP9 hD9
                generalize H1 = H at hP hS ⊢
                have hP : va_P (dC, dI) vwCl [(q_this, .inr (12, [.ref q_town, .ref q_read, .ref q_now, .ref q_aside, .ref q_past, .int v_undos, .ref q_images, .ref q_kept, .long v_seed, .ref q_text, .int v_size, .int v_fault, .ref q_sights, .int v_sightMany, .ref q_book, .int v_bookMany, .int v_at, .int v_begin, .int v_sign, .int v_figures, .int v_value, .int v_wrong, .ref q_went, .ref q_free, .ref q_stands])), (q_town, .inl (cI, 27, .inl v_town)), (q_now, .inl (cI, 19, .inl v_now)), (q_stands, .inl (cI, 8, .inl y138.2))] H := hP
                have hD : va_D A [(q_this, .inr (12, [.ref q_town, .ref q_read, .ref q_now, .ref q_aside, .ref q_past, .int v_undos, .ref q_images, .ref q_kept, .long v_seed, .ref q_text, .int v_size, .int v_fault, .ref q_sights, .int v_sightMany, .ref q_book, .int v_bookMany, .int v_at, .int v_begin, .int v_sign, .int v_figures, .int v_value, .int v_wrong, .ref q_went, .ref q_free, .ref q_stands])), (q_town, .inl (cI, 27, .inl v_town)), (q_now, .inl (cI, 19, .inl v_now)), (q_stands, .inl (cI, 8, .inl y138.2))] := hD
                refine lv_istore (lv' := [(10, .int y138.1), (9, .int o87.2.1), (8, .int o87.2.2.1), (7, .int o87.2.2.2), (6, .int w67.1), (5, .int o46.2), (4, .int w67.2.1), (3, .int w67.2.2.1), (2, .int k67_0), (0, .ref q_this), (1, .int a1)]) hx hb dX12_best_141 hl (by decide) rfl (fun ls hl => ?_)
                refine lv_iload hx hb dX12_best_143 (lv_at hl 0 rfl) ?_
                refine lv_iload hx hb dX12_best_145 (lv_at hl 6 rfl) ?_
                refine lv_icmp_ge (tgt := 155) hx hb dX12_best_147 (by decide) (fun c32 => ?_) (fun c32 => ?_)
                · have hrun := oz_t hrun c32
                  refine lv_iload_n hx hb dX12_best_155 rfl (lv_at hl 7 rfl) ?_
                  refine lv_istore_n (lv' := [(3, .int w67.2.2.1), (10, .int y138.1), (9, .int o87.2.1), (8, .int o87.2.2.1), (7, .int o87.2.2.2), (6, .int w67.1), (5, .int o46.2), (4, .int w67.2.1), (2, .int k67_0), (0, .ref q_this), (1, .int a1)]) hx hb dX12_best_156 rfl hl (by decide) rfl (fun ls hl => ?_)
                  refine lv_iload hx hb dX12_best_157 (lv_at hl 1 rfl) ?_
                  refine lv_iload hx hb dX12_best_159 (lv_at hl 7 rfl) ?_
                  refine lv_icmp_ge (tgt := 169) hx hb dX12_best_161 (by decide) (fun c33 => ?_) (fun c33 => ?_)
                  · have hrun := oz_t hrun c33
                    refine lv_iload hx hb dX12_best_169 (lv_at hl 7 rfl) ?_
                    refine lv_istore (lv' := [(4, .int w67.2.1), (3, .int w67.2.2.1), (10, .int y138.1), (9, .int o87.2.1), (8, .int o87.2.2.1), (7, .int o87.2.2.2), (6, .int w67.1), (5, .int o46.2), (2, .int k67_0), (0, .ref q_this), (1, .int a1)]) hx hb dX12_best_171 hl (by decide) rfl (fun ls hl => ?_)
                    refine lv_iinc (v := (w67.1 + 1)) (lv' := [(6, .int (w67.1 + 1)), (4, .int w67.2.1), (3, .int w67.2.2.1), (10, .int y138.1), (9, .int o87.2.1), (8, .int o87.2.2.1), (7, .int o87.2.2.2), (5, .int o46.2), (2, .int k67_0), (0, .ref q_this), (1, .int a1)]) hx hb dX12_best_173 hl (k := 6) rfl rfl (by decide) rfl (fun ls hl => ?_)
                    refine lv_goto (tgt := 67) hx hb dX12_best_176 (by decide) ?_
                    have hr9 := Option.some.inj hrun
                    subst hr9
                    exact ih ((w67.1 + 1), w67.2.1, w67.2.2.1, y138.2) _ hnext hexit _ _ _ (hP.sub [0, 1, 2, 3] rfl) (hD.sub [0, 1, 2, 3] (by decide) rfl) hS (lv_sub hl [0, 7, 1, 2, 8, 9, 10] rfl)
                  · have hrun := oz_f hrun c33
                    refine lv_iload hx hb dX12_best_164 (lv_at hl 1 rfl) ?_
                    refine lv_goto (tgt := 171) hx hb dX12_best_166 (by decide) ?_
                    refine lv_istore (lv' := [(4, .int y138.1), (3, .int w67.2.2.1), (10, .int y138.1), (9, .int o87.2.1), (8, .int o87.2.2.1), (7, .int o87.2.2.2), (6, .int w67.1), (5, .int o46.2), (2, .int k67_0), (0, .ref q_this), (1, .int a1)]) hx hb dX12_best_171 hl (by decide) rfl (fun ls hl => ?_)
                    refine lv_iinc (v := (w67.1 + 1)) (lv' := [(6, .int (w67.1 + 1)), (4, .int y138.1), (3, .int w67.2.2.1), (10, .int y138.1), (9, .int o87.2.1), (8, .int o87.2.2.1), (7, .int o87.2.2.2), (5, .int o46.2), (2, .int k67_0), (0, .ref q_this), (1, .int a1)]) hx hb dX12_best_173 hl (k := 6) rfl rfl (by decide) rfl (fun ls hl => ?_)
                    refine lv_goto (tgt := 67) hx hb dX12_best_176 (by decide) ?_
                    have hr9 := Option.some.inj hrun
                    subst hr9
                    exact ih ((w67.1 + 1), y138.1, w67.2.2.1, y138.2) _ hnext hexit _ _ _ (hP.sub [0, 1, 2, 3] rfl) (hD.sub [0, 1, 2, 3] (by decide) rfl) hS (lv_sub hl [0, 7, 1, 2, 8, 9, 10] rfl)
                · have hrun := oz_f hrun c32
                  refine lv_iload hx hb dX12_best_150 (lv_at hl 3 rfl) ?_
                  refine lv_goto (tgt := 156) hx hb dX12_best_152 (by decide) ?_
                  refine lv_istore_n (lv' := [(3, .int o87.2.2.2), (10, .int y138.1), (9, .int o87.2.1), (8, .int o87.2.2.1), (7, .int o87.2.2.2), (6, .int w67.1), (5, .int o46.2), (4, .int w67.2.1), (2, .int k67_0), (0, .ref q_this), (1, .int a1)]) hx hb dX12_best_156 rfl hl (by decide) rfl (fun ls hl => ?_)
                  refine lv_iload hx hb dX12_best_157 (lv_at hl 1 rfl) ?_
                  refine lv_iload hx hb dX12_best_159 (lv_at hl 7 rfl) ?_
                  refine lv_icmp_ge (tgt := 169) hx hb dX12_best_161 (by decide) (fun c34 => ?_) (fun c34 => ?_)
                  · have hrun := oz_t hrun c34
                    refine lv_iload hx hb dX12_best_169 (lv_at hl 7 rfl) ?_
                    refine lv_istore (lv' := [(4, .int w67.2.1), (3, .int o87.2.2.2), (10, .int y138.1), (9, .int o87.2.1), (8, .int o87.2.2.1), (7, .int o87.2.2.2), (6, .int w67.1), (5, .int o46.2), (2, .int k67_0), (0, .ref q_this), (1, .int a1)]) hx hb dX12_best_171 hl (by decide) rfl (fun ls hl => ?_)
                    refine lv_iinc (v := (w67.1 + 1)) (lv' := [(6, .int (w67.1 + 1)), (4, .int w67.2.1), (3, .int o87.2.2.2), (10, .int y138.1), (9, .int o87.2.1), (8, .int o87.2.2.1), (7, .int o87.2.2.2), (5, .int o46.2), (2, .int k67_0), (0, .ref q_this), (1, .int a1)]) hx hb dX12_best_173 hl (k := 6) rfl rfl (by decide) rfl (fun ls hl => ?_)
                    refine lv_goto (tgt := 67) hx hb dX12_best_176 (by decide) ?_
                    have hr9 := Option.some.inj hrun
                    subst hr9
                    exact ih ((w67.1 + 1), w67.2.1, o87.2.2.2, y138.2) _ hnext hexit _ _ _ (hP.sub [0, 1, 2, 3] rfl) (hD.sub [0, 1, 2, 3] (by decide) rfl) hS (lv_sub hl [0, 7, 1, 2, 8, 9, 10] rfl)
                  · have hrun := oz_f hrun c34
                    refine lv_iload hx hb dX12_best_164 (lv_at hl 1 rfl) ?_
                    refine lv_goto (tgt := 171) hx hb dX12_best_166 (by decide) ?_
                    refine lv_istore (lv' := [(4, .int y138.1), (3, .int o87.2.2.2), (10, .int y138.1), (9, .int o87.2.1), (8, .int o87.2.2.1), (7, .int o87.2.2.2), (6, .int w67.1), (5, .int o46.2), (2, .int k67_0), (0, .ref q_this), (1, .int a1)]) hx hb dX12_best_171 hl (by decide) rfl (fun ls hl => ?_)
                    refine lv_iinc (v := (w67.1 + 1)) (lv' := [(6, .int (w67.1 + 1)), (4, .int y138.1), (3, .int o87.2.2.2), (10, .int y138.1), (9, .int o87.2.1), (8, .int o87.2.2.1), (7, .int o87.2.2.2), (5, .int o46.2), (2, .int k67_0), (0, .ref q_this), (1, .int a1)]) hx hb dX12_best_173 hl (k := 6) rfl rfl (by decide) rfl (fun ls hl => ?_)
                    refine lv_goto (tgt := 67) hx hb dX12_best_176 (by decide) ?_
                    have hr9 := Option.some.inj hrun
                    subst hr9
                    exact ih ((w67.1 + 1), y138.1, o87.2.2.2, y138.2) _ hnext hexit _ _ _ (hP.sub [0, 1, 2, 3] rfl) (hD.sub [0, 1, 2, 3] (by decide) rfl) hS (lv_sub hl [0, 7, 1, 2, 8, 9, 10] rfl)
        refine hL67 (v_town (Int32.toNatClampNeg 2)) oz_fuel (0, 100000000, (-1), v_stands) o67 hlp67 (fun H locs ls hP hD hS hl => ?_) _ _ _ (hP.sub [0, 1, 2, 3] rfl) (hD.sub [0, 1, 2, 3] (by decide) rfl) hS (lv_sub hl [0, 1, 2, 3, 4, 5, 6] rfl)
        have hP : va_P (dC, dI) vwCl [(q_this, .inr (12, [.ref q_town, .ref q_read, .ref q_now, .ref q_aside, .ref q_past, .int v_undos, .ref q_images, .ref q_kept, .long v_seed, .ref q_text, .int v_size, .int v_fault, .ref q_sights, .int v_sightMany, .ref q_book, .int v_bookMany, .int v_at, .int v_begin, .int v_sign, .int v_figures, .int v_value, .int v_wrong, .ref q_went, .ref q_free, .ref q_stands])), (q_town, .inl (cI, 27, .inl v_town)), (q_now, .inl (cI, 19, .inl v_now)), (q_stands, .inl (cI, 8, .inl o67.2.2.2))] H := hP
        have hD : va_D A [(q_this, .inr (12, [.ref q_town, .ref q_read, .ref q_now, .ref q_aside, .ref q_past, .int v_undos, .ref q_images, .ref q_kept, .long v_seed, .ref q_text, .int v_size, .int v_fault, .ref q_sights, .int v_sightMany, .ref q_book, .int v_bookMany, .int v_at, .int v_begin, .int v_sign, .int v_figures, .int v_value, .int v_wrong, .ref q_went, .ref q_free, .ref q_stands])), (q_town, .inl (cI, 27, .inl v_town)), (q_now, .inl (cI, 19, .inl v_now)), (q_stands, .inl (cI, 8, .inl o67.2.2.2))] := hD
        have hl : lv_has ls 11 [(6, .int o67.1), (5, .int o46.2), (4, .int o67.2.1), (3, .int o67.2.2.1), (2, .int (v_town (Int32.toNatClampNeg 2))), (0, .ref q_this), (1, .int a1)] := hl
        refine lv_iload_n hx hb dX12_best_179 rfl (lv_at hl 3 rfl) ?_
        refine lv_iconst (v := (-1)) hx hb dX12_best_180 (by decide) ?_
        refine lv_icmp_eq (tgt := 188) hx hb dX12_best_181 (by decide) (fun c35 => ?_) (fun c35 => ?_)
        · have hrun := oz_t hrun c35
          refine lv_iload_n hx hb dX12_best_188 rfl (lv_at hl 3 rfl) ?_
          refine lv_goto (tgt := 194) hx hb dX12_best_189 (by decide) ?_
          have ho9 := Option.some.inj hrun
          subst ho9
          have hP9 := hP.sub (ws' := [(q_this, .inr (12, [.ref q_town, .ref q_read, .ref q_now, .ref q_aside, .ref q_past, .int v_undos, .ref q_images, .ref q_kept, .long v_seed, .ref q_text, .int v_size, .int v_fault, .ref q_sights, .int v_sightMany, .ref q_book, .int v_bookMany, .int v_at, .int v_begin, .int v_sign, .int v_figures, .int v_value, .int v_wrong, .ref q_went, .ref q_free, .ref q_stands])), (q_town, .inl (cI, 27, .inl v_town)), (q_now, .inl (cI, 19, .inl v_now)), (q_stands, .inl (cI, 8, .inl o67.2.2.2))]) [0, 1, 2, 3] rfl
          have hD9 := hD.sub (ws' := [(q_this, .inr (12, [.ref q_town, .ref q_read, .ref q_now, .ref q_aside, .ref q_past, .int v_undos, .ref q_images, .ref q_kept, .long v_seed, .ref q_text, .int v_size, .int v_fault, .ref q_sights, .int v_sightMany, .ref q_book, .int v_bookMany, .int v_at, .int v_begin, .int v_sign, .int v_figures, .int v_value, .int v_wrong, .ref q_went, .ref q_free, .ref q_stands])), (q_town, .inl (cI, 27, .inl v_town)), (q_now, .inl (cI, 19, .inl v_now)), (q_stands, .inl (cI, 8, .inl o67.2.2.2))]) [0, 1, 2, 3] (by decide) rfl
          rw [hQ]
          exact W.iret (v := o67.2.2.1) hx hb hr (fun t ht hW => ⟨⟨o67.2.2.1, (), rfl, rfl, by rw [ht]; exact hP9, va_K.moved hW.alike hK, hD9⟩, hS.F ht⟩) hS.2.2 dX12_best_194
        · have hrun := oz_f hrun c35
          refine lv_iload_n hx hb dX12_best_184 rfl (lv_at hl 6 rfl) ?_
          refine lv_if_ne (tgt := 192) hx hb dX12_best_185 (by decide) (fun c36 => ?_) (fun c36 => ?_)
          · have hrun := oz_f hrun c36
            refine lv_iload hx hb dX12_best_192 (lv_at hl 2 rfl) ?_
            have ho9 := Option.some.inj hrun
            subst ho9
            have hP9 := hP.sub (ws' := [(q_this, .inr (12, [.ref q_town, .ref q_read, .ref q_now, .ref q_aside, .ref q_past, .int v_undos, .ref q_images, .ref q_kept, .long v_seed, .ref q_text, .int v_size, .int v_fault, .ref q_sights, .int v_sightMany, .ref q_book, .int v_bookMany, .int v_at, .int v_begin, .int v_sign, .int v_figures, .int v_value, .int v_wrong, .ref q_went, .ref q_free, .ref q_stands])), (q_town, .inl (cI, 27, .inl v_town)), (q_now, .inl (cI, 19, .inl v_now)), (q_stands, .inl (cI, 8, .inl o67.2.2.2))]) [0, 1, 2, 3] rfl
            have hD9 := hD.sub (ws' := [(q_this, .inr (12, [.ref q_town, .ref q_read, .ref q_now, .ref q_aside, .ref q_past, .int v_undos, .ref q_images, .ref q_kept, .long v_seed, .ref q_text, .int v_size, .int v_fault, .ref q_sights, .int v_sightMany, .ref q_book, .int v_bookMany, .int v_at, .int v_begin, .int v_sign, .int v_figures, .int v_value, .int v_wrong, .ref q_went, .ref q_free, .ref q_stands])), (q_town, .inl (cI, 27, .inl v_town)), (q_now, .inl (cI, 19, .inl v_now)), (q_stands, .inl (cI, 8, .inl o67.2.2.2))]) [0, 1, 2, 3] (by decide) rfl
            rw [hQ]
            exact W.iret (v := o67.2.1) hx hb hr (fun t ht hW => ⟨⟨o67.2.1, (), rfl, rfl, by rw [ht]; exact hP9, va_K.moved hW.alike hK, hD9⟩, hS.F ht⟩) hS.2.2 dX12_best_194
          · have hrun := oz_t hrun c36
            refine lv_iload_n hx hb dX12_best_188 rfl (lv_at hl 3 rfl) ?_
            refine lv_goto (tgt := 194) hx hb dX12_best_189 (by decide) ?_
            have ho9 := Option.some.inj hrun
            subst ho9
            have hP9 := hP.sub (ws' := [(q_this, .inr (12, [.ref q_town, .ref q_read, .ref q_now, .ref q_aside, .ref q_past, .int v_undos, .ref q_images, .ref q_kept, .long v_seed, .ref q_text, .int v_size, .int v_fault, .ref q_sights, .int v_sightMany, .ref q_book, .int v_bookMany, .int v_at, .int v_begin, .int v_sign, .int v_figures, .int v_value, .int v_wrong, .ref q_went, .ref q_free, .ref q_stands])), (q_town, .inl (cI, 27, .inl v_town)), (q_now, .inl (cI, 19, .inl v_now)), (q_stands, .inl (cI, 8, .inl o67.2.2.2))]) [0, 1, 2, 3] rfl
            have hD9 := hD.sub (ws' := [(q_this, .inr (12, [.ref q_town, .ref q_read, .ref q_now, .ref q_aside, .ref q_past, .int v_undos, .ref q_images, .ref q_kept, .long v_seed, .ref q_text, .int v_size, .int v_fault, .ref q_sights, .int v_sightMany, .ref q_book, .int v_bookMany, .int v_at, .int v_begin, .int v_sign, .int v_figures, .int v_value, .int v_wrong, .ref q_went, .ref q_free, .ref q_stands])), (q_town, .inl (cI, 27, .inl v_town)), (q_now, .inl (cI, 19, .inl v_now)), (q_stands, .inl (cI, 8, .inl o67.2.2.2))]) [0, 1, 2, 3] (by decide) rfl
            rw [hQ]
            exact W.iret (v := o67.2.2.1) hx hb hr (fun t ht hW => ⟨⟨o67.2.2.1, (), rfl, rfl, by rw [ht]; exact hP9, va_K.moved hW.alike hK, hD9⟩, hS.F ht⟩) hS.2.2 dX12_best_194
  · have hrun := oz_t hrun c1
    refine lv_ldc hx hb hown hk69 dX12_best_10 ?_
    have ho9 := Option.some.inj hrun
    subst ho9
    have hP9 := hP.sub (ws' := [(q_this, .inr (12, [.ref q_town, .ref q_read, .ref q_now, .ref q_aside, .ref q_past, .int v_undos, .ref q_images, .ref q_kept, .long v_seed, .ref q_text, .int v_size, .int v_fault, .ref q_sights, .int v_sightMany, .ref q_book, .int v_bookMany, .int v_at, .int v_begin, .int v_sign, .int v_figures, .int v_value, .int v_wrong, .ref q_went, .ref q_free, .ref q_stands])), (q_town, .inl (cI, 27, .inl v_town)), (q_now, .inl (cI, 19, .inl v_now)), (q_stands, .inl (cI, 8, .inl v_stands))]) [0, 1, 2, 3] rfl
    have hD9 := hD.sub (ws' := [(q_this, .inr (12, [.ref q_town, .ref q_read, .ref q_now, .ref q_aside, .ref q_past, .int v_undos, .ref q_images, .ref q_kept, .long v_seed, .ref q_text, .int v_size, .int v_fault, .ref q_sights, .int v_sightMany, .ref q_book, .int v_bookMany, .int v_at, .int v_begin, .int v_sign, .int v_figures, .int v_value, .int v_wrong, .ref q_went, .ref q_free, .ref q_stands])), (q_town, .inl (cI, 27, .inl v_town)), (q_now, .inl (cI, 19, .inl v_now)), (q_stands, .inl (cI, 8, .inl v_stands))]) [0, 1, 2, 3] (by decide) rfl
    rw [hQ]
    exact W.iret (v := (-1000000002)) hx hb hr (fun t ht hW => ⟨⟨(-1000000002), (), rfl, rfl, by rw [ht]; exact hP9, va_K.moved hW.alike hK, hD9⟩, hS.F ht⟩) hS.2.2 dX12_best_12
def fX12_dry_b34 (a1 : Int32) (a2 : Int32) (w34 : Int32 × Int64) : Option ((Int32 × Int64) ⊕ (Int32 × Int64)) :=
  if a1 ≤ w34.1 then (some (.inr (w34.1, w34.2))) else (some (.inl ((w34.1 + 1), ((w34.2 * (Int32.toInt64 a2)) / (100 : Int64)))))
def fX12_dry (a1 : Int32) (a2 : Int32) : Option (Int32) :=
  Option.bind (fX12_in (Int32.toInt64 a1) (0 : Int64) (60 : Int64)) (fun y6 => if y6 = 0 then (some (-1000000002)) else (Option.bind (fX12_in (Int32.toInt64 a2) (0 : Int64) (100 : Int64)) (fun y18 => if y18 = 0 then (some (-1000000002)) else (Option.bind (oz_loop (fX12_dry_b34 a1 a2) oz_fuel (0, (1000000000 : Int64))) (fun o34 => some (Int64.toInt32 o34.2))))))
def rmX12_dry : Room := { frames := 1, cells := 0, slots := 0, locals := 25 }
set_option maxHeartbeats 4000000 in
set_option maxRecDepth 100000 in
theorem tX12_dry (l : Launch) (dC : Nat → ClassId) (dI : Nat → Nat → Nat) (cI cZ : ClassId) (q_this : Nat) (sz : Nat) (a1 : Int32) (a2 : Int32) (out : Int32) (hrun : fX12_dry a1 a2 = some out) : Met l yX12_dry wsX12_dry rmX12_dry (va_Pc [.ref q_this, .int a1, .int a2] (fun U => U.heap.size = sz ∧ va_P (dC, dI) vwCl [] U.heap ∧ va_K (dC, dI) vwCl [(cI, .int), (cZ, .boolean)] U ∧ va_D (fun _ => True) [])) (va_Qi (fun (r : Int32) (_ : Unit) => r = out) (fun _ t => va_P (dC, dI) vwCl [] t.heap ∧ va_K (dC, dI) vwCl [(cI, .int), (cZ, .boolean)] t ∧ va_D (va_A [] sz) []) (va_A [] sz)) 0 0 (va_A [] sz) := by
  refine Met.ofW (cc := cX12_dry) (maxL := 6) (ret := (some .int)) (by decide) rfl ?_
  intro p e s m args below meth c s₁ B hml hv
  obtain ⟨rfl, hsz, hP, hK, hD0⟩ := hv
  have hx := B.exec
  have hb := B.bytes
  have hr := B.returns
  have hts := atoms_spec (ws := wsX12_dry) B.pre
  have hown : s.vm.findClass RX12 = some m.cls := findClass_of_methodNamed B.named
  have hlocks := B.notSynchronized
  subst hsz
  have hD := hD0.self (sz := s.heap.size)
  generalize hAe : va_A [] s.heap.size = A at hD ⊢
  have hA : ∀ q : Nat, s.heap.size ≤ q → A q := fun q h => by rw [← hAe]; exact Or.inr h
  have hS : va_S A s.heap s.heap [] := va_S.rf
  have hl := lv_entry ([.ref q_this, .int a1, .int a2]) (n := 6) (Nat.le_of_ble_eq_true rfl)
  rw [lg_entry_eq]
  generalize (lg_sl ([.ref q_this, .int a1, .int a2]) ++ List.replicate (6 - (lg_sl ([.ref q_this, .int a1, .int a2])).length) Slot.unset).toArray = ls at hl ⊢
  have hl : lv_has ls 6 [(0, .ref q_this), (1, .int a1), (2, .int a2)] := hl
  unfold fX12_dry at hrun
  have hk171 := hts (.constantLong RX12 171 (60)) (by decide +kernel)
  have hk69 := hts (.constant RX12 69 (-1000000002)) (by decide +kernel)
  have hk221 := hts (.constantLong RX12 221 (100)) (by decide +kernel)
  have hk223 := hts (.constantLong RX12 223 (1000000000)) (by decide +kernel)
  refine oz_genQ (fun Q hQ => ?_)
  refine lv_iload_n hx hb dX12_dry_0 rfl (lv_at hl 1 rfl) ?_
  refine lv_i2l hx hb dX12_dry_1 rfl ?_
  refine lv_lconst (v := 0) hx hb dX12_dry_2 (by decide) ?_
  refine lv_ldc2 hx hb hown hk171 dX12_dry_3 ?_
  obtain ⟨y6, hc6, hrun⟩ := oz_bind hrun
  have hPc := hP.sub (ws' := []) [] rfl
  have hDc := hD.sub (ws' := []) [] (by decide) rfl
  have hFc := va_free (wc := []) hD hS hA [] rfl
  refine va_calli (va_runS (As := [.long (Int32.toInt64 a1), .long (0 : Int64), .long (60 : Int64)]) (rest := []) ⟨hx, hb, hml, hown, hts⟩ (tX12_in l dC dI cI cZ s.heap.size (Int32.toInt64 a1) (0 : Int64) (60 : Int64) y6 hc6) (va_cwS 3 hts gX12_dry_X12_in rfl rfl rfl (by decide +kernel) ⟨Nat.le_of_ble_eq_true rfl, Nat.le_of_ble_eq_true rfl⟩) ⟨fun a U g mk q => by obtain ⟨q0, q1, qP, qK, qD⟩ := q; exact ⟨q0, q1, qP, va_K.moved (u := U) (U := U.calling g mk a) (Vm.Alike.refl U.vm) qK, qD⟩, fun U hU hW => ⟨rfl, by rw [hU], by rw [hU]; exact hPc, va_K.moved hW.alike hK, hDc.weaken (fun _ _ _ _ => trivial)⟩⟩ rfl rfl hl.1 rfl (lv_room (Nat.le_of_ble_eq_true rfl)) dX12_dry_6 ⟨Nat.le_of_ble_eq_true rfl, Nat.le_of_ble_eq_true rfl⟩) hS (fun q _ h => hFc q h) hFc (fun r6 u9 t9 H1 locs ht9 hvm9 hw9 hB9 hz9 hkk9 hS => ?_)
  have hw9 : y6 = r6 := hw9.symm
  subst hw9
  obtain ⟨hP9, hK9, hD9⟩ := hB9
  rw [ht9] at hP9
  obtain ⟨hP, hD⟩ := va_join (wr := []) (w1 := []) hP hD [] [] rfl rfl (by decide) (by decide) hkk9 hFc hP9 hD9
  generalize H1 = H at hP hS ⊢
  have hP : va_P (dC, dI) vwCl [] H := hP
  have hD : va_D A [] := hD
  refine lv_if_eq (tgt := 24) hx hb dX12_dry_9 (by decide) (fun c1 => ?_) (fun c1 => ?_)
  · have hrun := oz_t hrun c1
    refine lv_ldc hx hb hown hk69 dX12_dry_24 ?_
    have ho9 := Option.some.inj hrun
    subst ho9
    have hP9 := hP.sub (ws' := []) [] rfl
    have hD9 := hD.sub (ws' := []) [] (by decide) rfl
    rw [hQ]
    exact W.iret (v := (-1000000002)) hx hb hr (fun t ht hW => ⟨⟨(-1000000002), (), rfl, rfl, by rw [ht]; exact hP9, va_K.moved hW.alike hK, hD9⟩, hS.F ht⟩) hS.2.2 dX12_dry_26
  · have hrun := oz_f hrun c1
    refine lv_iload_n hx hb dX12_dry_12 rfl (lv_at hl 2 rfl) ?_
    refine lv_i2l hx hb dX12_dry_13 rfl ?_
    refine lv_lconst (v := 0) hx hb dX12_dry_14 (by decide) ?_
    refine lv_ldc2 hx hb hown hk221 dX12_dry_15 ?_
    obtain ⟨y18, hc18, hrun⟩ := oz_bind hrun
    have hPc := hP.sub (ws' := []) [] rfl
    have hDc := hD.sub (ws' := []) [] (by decide) rfl
    have hFc := va_free (wc := []) hD hS hA [] rfl
    refine va_calli (va_runS (As := [.long (Int32.toInt64 a2), .long (0 : Int64), .long (100 : Int64)]) (rest := []) ⟨hx, hb, hml, hown, hts⟩ (tX12_in l dC dI cI cZ H.size (Int32.toInt64 a2) (0 : Int64) (100 : Int64) y18 hc18) (va_cwS 3 hts gX12_dry_X12_in rfl rfl rfl (by decide +kernel) ⟨Nat.le_of_ble_eq_true rfl, Nat.le_of_ble_eq_true rfl⟩) ⟨fun a U g mk q => by obtain ⟨q0, q1, qP, qK, qD⟩ := q; exact ⟨q0, q1, qP, va_K.moved (u := U) (U := U.calling g mk a) (Vm.Alike.refl U.vm) qK, qD⟩, fun U hU hW => ⟨rfl, by rw [hU], by rw [hU]; exact hPc, va_K.moved hW.alike hK, hDc.weaken (fun _ _ _ _ => trivial)⟩⟩ rfl rfl hl.1 rfl (lv_room (Nat.le_of_ble_eq_true rfl)) dX12_dry_18 ⟨Nat.le_of_ble_eq_true rfl, Nat.le_of_ble_eq_true rfl⟩) hS (fun q _ h => hFc q h) hFc (fun r18 u9 t9 H1 locs ht9 hvm9 hw9 hB9 hz9 hkk9 hS => ?_)
    have hw9 : y18 = r18 := hw9.symm
    subst hw9
    obtain ⟨hP9, hK9, hD9⟩ := hB9
    rw [ht9] at hP9
    obtain ⟨hP, hD⟩ := va_join (wr := []) (w1 := []) hP hD [] [] rfl rfl (by decide) (by decide) hkk9 hFc hP9 hD9
    generalize H1 = H at hP hS ⊢
    have hP : va_P (dC, dI) vwCl [] H := hP
    have hD : va_D A [] := hD
    refine lv_if_ne (tgt := 27) hx hb dX12_dry_21 (by decide) (fun c2 => ?_) (fun c2 => ?_)
    · have hrun := oz_f hrun c2
      refine lv_ldc2 hx hb hown hk223 dX12_dry_27 ?_
      refine lv_lstore_n (lv' := [(3, .long (1000000000 : Int64)), (0, .ref q_this), (1, .int a1), (2, .int a2)]) hx hb dX12_dry_30 rfl hl (by decide) rfl (fun ls hl => ?_)
      refine lv_iconst (v := 0) hx hb dX12_dry_31 (by decide) ?_
      refine lv_istore (lv' := [(5, .int 0), (3, .long (1000000000 : Int64)), (0, .ref q_this), (1, .int a1), (2, .int a2)]) hx hb dX12_dry_32 hl (by decide) rfl (fun ls hl => ?_)
      obtain ⟨o34, hlp34, hrun⟩ := oz_bind hrun
      have hL34 : ∀ (n : Nat) (w34 : Int32 × Int64) (o34 : Int32 × Int64), oz_loop (fX12_dry_b34 a1 a2) n w34 = some o34 → (∀ (H : Heap) (locs : List Loc) (ls : Array Slot), va_P (dC, dI) vwCl [] H → va_D A [] → va_S A s.heap H locs → lv_has ls 6 [(5, .int o34.1), (3, .long o34.2), (1, .int a1), (2, .int a2)] → W p l e (headSpec wsX12_dry rmX12_dry).room s m (([.ref q_this, .int a1, .int a2] : List Value).toArray) below meth c H locs 0 0 Q (F0 m 55 ls [])) → ∀ (H : Heap) (locs : List Loc) (ls : Array Slot), va_P (dC, dI) vwCl [] H → va_D A [] → va_S A s.heap H locs → lv_has ls 6 [(5, .int w34.1), (3, .long w34.2), (1, .int a1), (2, .int a2)] → W p l e (headSpec wsX12_dry rmX12_dry).room s m (([.ref q_this, .int a1, .int a2] : List Value).toArray) below meth c H locs 0 0 Q (F0 m 34 ls []) := by
        intro n
        induction n with
        | zero => intro w34 o34 h9; exact (oz_zero h9).elim
        | succ n ih =>
          intro w34 o34 h9 hexit H locs ls hP hD hS hl
          obtain ⟨r9, hrun, hnext⟩ := oz_step h9
          unfold fX12_dry_b34 at hrun
          refine lv_iload hx hb dX12_dry_34 (lv_at hl 0 rfl) ?_
          refine lv_iload_n hx hb dX12_dry_36 rfl (lv_at hl 2 rfl) ?_
          refine lv_icmp_ge (tgt := 55) hx hb dX12_dry_37 (by decide) (fun c3 => ?_) (fun c3 => ?_)
          · have hrun := oz_t hrun c3
            have hr9 := Option.some.inj hrun
            subst hr9
            have ho9 : (w34.1, w34.2) = o34 := hnext
            subst ho9
            exact hexit _ _ _ (hP.sub [] rfl) (hD.sub [] (by decide) rfl) hS (lv_sub hl [0, 1, 2, 3] rfl)
          · have hrun := oz_f hrun c3
            refine lv_lload_n hx hb dX12_dry_40 rfl (lv_at hl 1 rfl) ?_
            refine lv_iload_n hx hb dX12_dry_41 rfl (lv_at hl 3 rfl) ?_
            refine lv_i2l hx hb dX12_dry_42 rfl ?_
            refine lv_lmul hx hb dX12_dry_43 ?_
            refine lv_ldc2 hx hb hown hk221 dX12_dry_44 ?_
            refine lv_ldiv hx hb dX12_dry_47 (by decide) ?_
            refine lv_lstore_n (lv' := [(3, .long ((w34.2 * (Int32.toInt64 a2)) / (100 : Int64))), (5, .int w34.1), (1, .int a1), (2, .int a2)]) hx hb dX12_dry_48 rfl hl (by decide) rfl (fun ls hl => ?_)
            refine lv_iinc (v := (w34.1 + 1)) (lv' := [(5, .int (w34.1 + 1)), (3, .long ((w34.2 * (Int32.toInt64 a2)) / (100 : Int64))), (1, .int a1), (2, .int a2)]) hx hb dX12_dry_49 hl (k := 1) rfl rfl (by decide) rfl (fun ls hl => ?_)
            refine lv_goto (tgt := 34) hx hb dX12_dry_52 (by decide) ?_
            have hr9 := Option.some.inj hrun
            subst hr9
            exact ih ((w34.1 + 1), ((w34.2 * (Int32.toInt64 a2)) / (100 : Int64))) _ hnext hexit _ _ _ (hP.sub [] rfl) (hD.sub [] (by decide) rfl) hS (lv_sub hl [0, 1, 2, 3] rfl)
      refine hL34 oz_fuel (0, (1000000000 : Int64)) o34 hlp34 (fun H locs ls hP hD hS hl => ?_) _ _ _ (hP.sub [] rfl) (hD.sub [] (by decide) rfl) hS (lv_sub hl [0, 1, 3, 4] rfl)
      have hP : va_P (dC, dI) vwCl [] H := hP
      have hD : va_D A [] := hD
      have hl : lv_has ls 6 [(5, .int o34.1), (3, .long o34.2), (1, .int a1), (2, .int a2)] := hl
      refine lv_lload_n hx hb dX12_dry_55 rfl (lv_at hl 1 rfl) ?_
      refine lv_l2i hx hb dX12_dry_56 rfl ?_
      have ho9 := Option.some.inj hrun
      subst ho9
      have hP9 := hP.sub (ws' := []) [] rfl
      have hD9 := hD.sub (ws' := []) [] (by decide) rfl
      rw [hQ]
      exact W.iret (v := (Int64.toInt32 o34.2)) hx hb hr (fun t ht hW => ⟨⟨(Int64.toInt32 o34.2), (), rfl, rfl, by rw [ht]; exact hP9, va_K.moved hW.alike hK, hD9⟩, hS.F ht⟩) hS.2.2 dX12_dry_57
    · have hrun := oz_t hrun c2
      refine lv_ldc hx hb hown hk69 dX12_dry_24 ?_
      have ho9 := Option.some.inj hrun
      subst ho9
      have hP9 := hP.sub (ws' := []) [] rfl
      have hD9 := hD.sub (ws' := []) [] (by decide) rfl
      rw [hQ]
      exact W.iret (v := (-1000000002)) hx hb hr (fun t ht hW => ⟨⟨(-1000000002), (), rfl, rfl, by rw [ht]; exact hP9, va_K.moved hW.alike hK, hD9⟩, hS.F ht⟩) hS.2.2 dX12_dry_26
def fX12_see (v_sightMany : Int32) (v_town : Nat → Int32) (v_sights : Nat → Int32) (a1 : Int32) (a2 : Int32) : Option (Int32 × Int32 × (Nat → Int32)) :=
  Option.bind (fX12_isHouse v_town a1) (fun y2 => if y2 = 0 then (some ((-1000000001), v_sightMany, v_sights)) else (if v_sightMany = 6 then (some ((-1000000004), v_sightMany, v_sights)) else (if ((2 * v_sightMany) < 0 ∨ 12 ≤ Int32.toNatClampNeg (2 * v_sightMany)) then none else if a2 = 0 then (if (((2 * v_sightMany) + 1) < 0 ∨ 12 ≤ Int32.toNatClampNeg ((2 * v_sightMany) + 1)) then none else some ((v_sightMany + 1), (v_sightMany + 1), (upd (upd v_sights (Int32.toNatClampNeg (2 * v_sightMany)) a1) (Int32.toNatClampNeg ((2 * v_sightMany) + 1)) 0))) else (if (((2 * v_sightMany) + 1) < 0 ∨ 12 ≤ Int32.toNatClampNeg ((2 * v_sightMany) + 1)) then none else some ((v_sightMany + 1), (v_sightMany + 1), (upd (upd v_sights (Int32.toNatClampNeg (2 * v_sightMany)) a1) (Int32.toNatClampNeg ((2 * v_sightMany) + 1)) 1))))))
def rmX12_see : Room := { frames := 2, cells := 0, slots := 0, locals := 46 }
set_option maxHeartbeats 4000000 in
set_option maxRecDepth 100000 in
theorem tX12_see (l : Launch) (dC : Nat → ClassId) (dI : Nat → Nat → Nat) (cI cZ : ClassId) (q_aside q_book q_free q_images q_kept q_now q_past q_read q_sights q_stands q_text q_this q_town q_went : Nat) (sz : Nat) (v_undos : Int32) (v_seed : Int64) (v_size : Int32) (v_fault : Int32) (v_bookMany : Int32) (v_at : Int32) (v_begin : Int32) (v_sign : Int32) (v_figures : Int32) (v_value : Int32) (v_wrong : Int32) (v_sightMany : Int32) (v_town : Nat → Int32) (v_sights : Nat → Int32) (a1 : Int32) (a2 : Int32) (out : Int32 × Int32 × (Nat → Int32)) (hrun : fX12_see v_sightMany v_town v_sights a1 a2 = some out) : Met l yX12_see wsX12_see rmX12_see (va_Pc [.ref q_this, .int a1, .int a2] (fun U => U.heap.size = sz ∧ va_P (dC, dI) vwCl [(q_this, .inr (12, [.ref q_town, .ref q_read, .ref q_now, .ref q_aside, .ref q_past, .int v_undos, .ref q_images, .ref q_kept, .long v_seed, .ref q_text, .int v_size, .int v_fault, .ref q_sights, .int v_sightMany, .ref q_book, .int v_bookMany, .int v_at, .int v_begin, .int v_sign, .int v_figures, .int v_value, .int v_wrong, .ref q_went, .ref q_free, .ref q_stands])), (q_town, .inl (cI, 27, .inl v_town)), (q_sights, .inl (cI, 12, .inl v_sights))] U.heap ∧ va_K (dC, dI) vwCl [(cI, .int), (cZ, .boolean)] U ∧ va_D (fun _ => True) [(q_this, .inr (12, [.ref q_town, .ref q_read, .ref q_now, .ref q_aside, .ref q_past, .int v_undos, .ref q_images, .ref q_kept, .long v_seed, .ref q_text, .int v_size, .int v_fault, .ref q_sights, .int v_sightMany, .ref q_book, .int v_bookMany, .int v_at, .int v_begin, .int v_sign, .int v_figures, .int v_value, .int v_wrong, .ref q_went, .ref q_free, .ref q_stands])), (q_town, .inl (cI, 27, .inl v_town)), (q_sights, .inl (cI, 12, .inl v_sights))])) (va_Qi (fun (r : Int32) (_ : Unit) => r = out.1) (fun _ t => va_P (dC, dI) vwCl [(q_this, .inr (12, [.ref q_town, .ref q_read, .ref q_now, .ref q_aside, .ref q_past, .int v_undos, .ref q_images, .ref q_kept, .long v_seed, .ref q_text, .int v_size, .int v_fault, .ref q_sights, .int out.2.1, .ref q_book, .int v_bookMany, .int v_at, .int v_begin, .int v_sign, .int v_figures, .int v_value, .int v_wrong, .ref q_went, .ref q_free, .ref q_stands])), (q_town, .inl (cI, 27, .inl v_town)), (q_sights, .inl (cI, 12, .inl out.2.2))] t.heap ∧ va_K (dC, dI) vwCl [(cI, .int), (cZ, .boolean)] t ∧ va_D (va_A [(q_this, .inr (12, [.ref q_town, .ref q_read, .ref q_now, .ref q_aside, .ref q_past, .int v_undos, .ref q_images, .ref q_kept, .long v_seed, .ref q_text, .int v_size, .int v_fault, .ref q_sights, .int v_sightMany, .ref q_book, .int v_bookMany, .int v_at, .int v_begin, .int v_sign, .int v_figures, .int v_value, .int v_wrong, .ref q_went, .ref q_free, .ref q_stands])), (q_town, .inl (cI, 27, .inl v_town)), (q_sights, .inl (cI, 12, .inl v_sights))] sz) [(q_this, .inr (12, [.ref q_town, .ref q_read, .ref q_now, .ref q_aside, .ref q_past, .int v_undos, .ref q_images, .ref q_kept, .long v_seed, .ref q_text, .int v_size, .int v_fault, .ref q_sights, .int out.2.1, .ref q_book, .int v_bookMany, .int v_at, .int v_begin, .int v_sign, .int v_figures, .int v_value, .int v_wrong, .ref q_went, .ref q_free, .ref q_stands])), (q_town, .inl (cI, 27, .inl v_town)), (q_sights, .inl (cI, 12, .inl out.2.2))]) (va_A [(q_this, .inr (12, [.ref q_town, .ref q_read, .ref q_now, .ref q_aside, .ref q_past, .int v_undos, .ref q_images, .ref q_kept, .long v_seed, .ref q_text, .int v_size, .int v_fault, .ref q_sights, .int v_sightMany, .ref q_book, .int v_bookMany, .int v_at, .int v_begin, .int v_sign, .int v_figures, .int v_value, .int v_wrong, .ref q_went, .ref q_free, .ref q_stands])), (q_town, .inl (cI, 27, .inl v_town)), (q_sights, .inl (cI, 12, .inl v_sights))] sz)) 0 0 (va_A [(q_this, .inr (12, [.ref q_town, .ref q_read, .ref q_now, .ref q_aside, .ref q_past, .int v_undos, .ref q_images, .ref q_kept, .long v_seed, .ref q_text, .int v_size, .int v_fault, .ref q_sights, .int v_sightMany, .ref q_book, .int v_bookMany, .int v_at, .int v_begin, .int v_sign, .int v_figures, .int v_value, .int v_wrong, .ref q_went, .ref q_free, .ref q_stands])), (q_town, .inl (cI, 27, .inl v_town)), (q_sights, .inl (cI, 12, .inl v_sights))] sz) := by
  refine Met.ofW (cc := cX12_see) (maxL := 3) (ret := (some .int)) (by decide) rfl ?_
  intro p e s m args below meth c s₁ B hml hv
  obtain ⟨rfl, hsz, hP, hK, hD0⟩ := hv
  have hx := B.exec
  have hb := B.bytes
  have hr := B.returns
  have hts := atoms_spec (ws := wsX12_see) B.pre
  have hown : s.vm.findClass RX12 = some m.cls := findClass_of_methodNamed B.named
  have hlocks := B.notSynchronized
  subst hsz
  have hD := hD0.self (sz := s.heap.size)
  generalize hAe : va_A [(q_this, .inr (12, [.ref q_town, .ref q_read, .ref q_now, .ref q_aside, .ref q_past, .int v_undos, .ref q_images, .ref q_kept, .long v_seed, .ref q_text, .int v_size, .int v_fault, .ref q_sights, .int v_sightMany, .ref q_book, .int v_bookMany, .int v_at, .int v_begin, .int v_sign, .int v_figures, .int v_value, .int v_wrong, .ref q_went, .ref q_free, .ref q_stands])), (q_town, .inl (cI, 27, .inl v_town)), (q_sights, .inl (cI, 12, .inl v_sights))] s.heap.size = A at hD ⊢
  have hA : ∀ q : Nat, s.heap.size ≤ q → A q := fun q h => by rw [← hAe]; exact Or.inr h
  have hS : va_S A s.heap s.heap [] := va_S.rf
  have hl := lv_entry ([.ref q_this, .int a1, .int a2]) (n := 3) (Nat.le_of_ble_eq_true rfl)
  rw [lg_entry_eq]
  generalize (lg_sl ([.ref q_this, .int a1, .int a2]) ++ List.replicate (3 - (lg_sl ([.ref q_this, .int a1, .int a2])).length) Slot.unset).toArray = ls at hl ⊢
  have hl : lv_has ls 3 [(0, .ref q_this), (1, .int a1), (2, .int a2)] := hl
  unfold fX12_see at hrun
  have hk57 := hts (.fieldLink RX12 57 "LentDrainsModel" "sightMany" "I") (by decide +kernel)
  have hiX12 : ∀ w ∈ wsX120, w ∈ wsX12_see := by decide +kernel
  have hk39 := hts (.fieldLink RX12 39 "LentDrainsModel" "sights" "[I") (by decide +kernel)
  have hk73 := hts (.constant RX12 73 (-1000000004)) (by decide +kernel)
  have hk151 := hts (.constant RX12 151 (-1000000001)) (by decide +kernel)
  refine oz_genQ (fun Q hQ => ?_)
  refine lv_aload_n hx hb dX12_see_0 rfl (lv_at hl 0 rfl) ?_
  refine lv_iload_n hx hb dX12_see_1 rfl (lv_at hl 1 rfl) ?_
  obtain ⟨y2, hc2, hrun⟩ := oz_bind hrun
  have hPc := hP.sub (ws' := [(q_this, .inr (12, [.ref q_town, .ref q_read, .ref q_now, .ref q_aside, .ref q_past, .int v_undos, .ref q_images, .ref q_kept, .long v_seed, .ref q_text, .int v_size, .int v_fault, .ref q_sights, .int v_sightMany, .ref q_book, .int v_bookMany, .int v_at, .int v_begin, .int v_sign, .int v_figures, .int v_value, .int v_wrong, .ref q_went, .ref q_free, .ref q_stands])), (q_town, .inl (cI, 27, .inl v_town))]) [0, 1] rfl
  have hDc := hD.sub (ws' := [(q_this, .inr (12, [.ref q_town, .ref q_read, .ref q_now, .ref q_aside, .ref q_past, .int v_undos, .ref q_images, .ref q_kept, .long v_seed, .ref q_text, .int v_size, .int v_fault, .ref q_sights, .int v_sightMany, .ref q_book, .int v_bookMany, .int v_at, .int v_begin, .int v_sign, .int v_figures, .int v_value, .int v_wrong, .ref q_went, .ref q_free, .ref q_stands])), (q_town, .inl (cI, 27, .inl v_town))]) [0, 1] (by decide) rfl
  have hFc := va_free (wc := [(q_this, .inr (12, [.ref q_town, .ref q_read, .ref q_now, .ref q_aside, .ref q_past, .int v_undos, .ref q_images, .ref q_kept, .long v_seed, .ref q_text, .int v_size, .int v_fault, .ref q_sights, .int v_sightMany, .ref q_book, .int v_bookMany, .int v_at, .int v_begin, .int v_sign, .int v_figures, .int v_value, .int v_wrong, .ref q_went, .ref q_free, .ref q_stands])), (q_town, .inl (cI, 27, .inl v_town))]) hD hS hA [0, 1] rfl
  refine va_calli (va_runV (As := [.int a1]) (rest := []) ⟨hx, hb, hml, hown, hts⟩ (tX12_isHouse l dC dI cI cZ q_aside q_book q_free q_images q_kept q_now q_past q_read q_sights q_stands q_text q_this q_town q_went s.heap.size v_undos v_seed v_size v_fault v_sightMany v_bookMany v_at v_begin v_sign v_figures v_value v_wrong v_town a1 y2 hc2) (cwV 1 hts gX12_see_X12_isHouse rfl rfl rfl (by decide +kernel) ⟨Nat.le_of_ble_eq_true rfl, Nat.le_of_ble_eq_true rfl⟩) ⟨fun a U g mk q => by obtain ⟨q0, q1, qP, qK, qD⟩ := q; exact ⟨q0, q1, qP, va_K.moved (u := U) (U := U.calling g mk a) (Vm.Alike.refl U.vm) qK, qD⟩, va_recv hK hPc (ci := 12) (q0 := 0) rfl rfl, fun U hU hW => ⟨rfl, by rw [hU], by rw [hU]; exact hPc, va_K.moved hW.alike hK, hDc.weaken (fun _ _ _ _ => trivial)⟩⟩ rfl rfl hl.1 rfl (lv_room (Nat.le_of_ble_eq_true rfl)) dX12_see_2 ⟨Nat.le_of_ble_eq_true rfl, Nat.le_of_ble_eq_true rfl⟩) hS (fun q _ h => hFc q h) hFc (fun r2 u9 t9 H1 locs ht9 hvm9 hw9 hB9 hz9 hkk9 hS => ?_)
  have hw9 : y2 = r2 := hw9.symm
  subst hw9
  obtain ⟨hP9, hK9, hD9⟩ := hB9
  rw [ht9] at hP9
  obtain ⟨hP, hD⟩ := va_join (wr := [(q_sights, .inl (cI, 12, .inl v_sights))]) (w1 := [(q_this, .inr (12, [.ref q_town, .ref q_read, .ref q_now, .ref q_aside, .ref q_past, .int v_undos, .ref q_images, .ref q_kept, .long v_seed, .ref q_text, .int v_size, .int v_fault, .ref q_sights, .int v_sightMany, .ref q_book, .int v_bookMany, .int v_at, .int v_begin, .int v_sign, .int v_figures, .int v_value, .int v_wrong, .ref q_went, .ref q_free, .ref q_stands])), (q_town, .inl (cI, 27, .inl v_town))]) hP hD [0, 1] [2] rfl rfl (by decide) (by decide) hkk9 hFc hP9 hD9
  generalize H1 = H at hP hS ⊢
  have hP : va_P (dC, dI) vwCl [(q_sights, .inl (cI, 12, .inl v_sights)), (q_this, .inr (12, [.ref q_town, .ref q_read, .ref q_now, .ref q_aside, .ref q_past, .int v_undos, .ref q_images, .ref q_kept, .long v_seed, .ref q_text, .int v_size, .int v_fault, .ref q_sights, .int v_sightMany, .ref q_book, .int v_bookMany, .int v_at, .int v_begin, .int v_sign, .int v_figures, .int v_value, .int v_wrong, .ref q_went, .ref q_free, .ref q_stands])), (q_town, .inl (cI, 27, .inl v_town))] H := hP
  have hD : va_D A [(q_sights, .inl (cI, 12, .inl v_sights)), (q_this, .inr (12, [.ref q_town, .ref q_read, .ref q_now, .ref q_aside, .ref q_past, .int v_undos, .ref q_images, .ref q_kept, .long v_seed, .ref q_text, .int v_size, .int v_fault, .ref q_sights, .int v_sightMany, .ref q_book, .int v_bookMany, .int v_at, .int v_begin, .int v_sign, .int v_figures, .int v_value, .int v_wrong, .ref q_went, .ref q_free, .ref q_stands])), (q_town, .inl (cI, 27, .inl v_town))] := hD
  refine lv_if_ne (tgt := 11) hx hb dX12_see_5 (by decide) (fun c1 => ?_) (fun c1 => ?_)
  · have hrun := oz_f hrun c1
    refine lv_aload_n hx hb dX12_see_11 rfl (lv_at hl 0 rfl) ?_
    refine va_get (D := (dC, dI)) (ci := 12) (v := .int v_sightMany) (C := RX12) (T := TX12) (N := 25) hx hb hts hiX12 hown hK hP 1 rfl rfl 13 (by decide) hk57 (fun _ h9 => h9) rfl dX12_see_12 ?_
    refine lv_bipush (v := 6) hx hb dX12_see_15 (by decide) ?_
    refine lv_icmp_ne (tgt := 23) hx hb dX12_see_17 (by decide) (fun c2 => ?_) (fun c2 => ?_)
    · have hrun := oz_f hrun c2
      refine lv_aload_n hx hb dX12_see_23 rfl (lv_at hl 0 rfl) ?_
      refine va_get (D := (dC, dI)) (ci := 12) (v := .ref q_sights) (C := RX12) (T := TX12) (N := 25) hx hb hts hiX12 hown hK hP 1 rfl rfl 12 (by decide) hk39 (fun _ h9 => h9) rfl dX12_see_24 ?_
      refine lv_iconst (v := 2) hx hb dX12_see_27 (by decide) ?_
      refine lv_aload_n hx hb dX12_see_28 rfl (lv_at hl 0 rfl) ?_
      refine va_get (D := (dC, dI)) (ci := 12) (v := .int v_sightMany) (C := RX12) (T := TX12) (N := 25) hx hb hts hiX12 hown hK hP 1 rfl rfl 13 (by decide) hk57 (fun _ h9 => h9) rfl dX12_see_29 ?_
      refine lv_imul hx hb dX12_see_32 ?_
      refine lv_iload_n hx hb dX12_see_33 rfl (lv_at hl 1 rfl) ?_
      obtain ⟨c3, hrun⟩ := oz_chk hrun
      refine va_iast hx hb hK hP hD hS 0 0 rfl rfl c3 dX12_see_34 (fun H locs hP hD hS => ?_)
      have hP : va_P (dC, dI) vwCl [(q_sights, .inl (cI, 12, .inl (upd v_sights (Int32.toNatClampNeg (2 * v_sightMany)) a1))), (q_this, .inr (12, [.ref q_town, .ref q_read, .ref q_now, .ref q_aside, .ref q_past, .int v_undos, .ref q_images, .ref q_kept, .long v_seed, .ref q_text, .int v_size, .int v_fault, .ref q_sights, .int v_sightMany, .ref q_book, .int v_bookMany, .int v_at, .int v_begin, .int v_sign, .int v_figures, .int v_value, .int v_wrong, .ref q_went, .ref q_free, .ref q_stands])), (q_town, .inl (cI, 27, .inl v_town))] H := hP
      have hD : va_D A [(q_sights, .inl (cI, 12, .inl (upd v_sights (Int32.toNatClampNeg (2 * v_sightMany)) a1))), (q_this, .inr (12, [.ref q_town, .ref q_read, .ref q_now, .ref q_aside, .ref q_past, .int v_undos, .ref q_images, .ref q_kept, .long v_seed, .ref q_text, .int v_size, .int v_fault, .ref q_sights, .int v_sightMany, .ref q_book, .int v_bookMany, .int v_at, .int v_begin, .int v_sign, .int v_figures, .int v_value, .int v_wrong, .ref q_went, .ref q_free, .ref q_stands])), (q_town, .inl (cI, 27, .inl v_town))] := hD
      refine lv_aload_n hx hb dX12_see_35 rfl (lv_at hl 0 rfl) ?_
      refine va_get (D := (dC, dI)) (ci := 12) (v := .ref q_sights) (C := RX12) (T := TX12) (N := 25) hx hb hts hiX12 hown hK hP 1 rfl rfl 12 (by decide) hk39 (fun _ h9 => h9) rfl dX12_see_36 ?_
      refine lv_iconst (v := 2) hx hb dX12_see_39 (by decide) ?_
      refine lv_aload_n hx hb dX12_see_40 rfl (lv_at hl 0 rfl) ?_
      refine va_get (D := (dC, dI)) (ci := 12) (v := .int v_sightMany) (C := RX12) (T := TX12) (N := 25) hx hb hts hiX12 hown hK hP 1 rfl rfl 13 (by decide) hk57 (fun _ h9 => h9) rfl dX12_see_41 ?_
      refine lv_imul hx hb dX12_see_44 ?_
      refine lv_iconst (v := 1) hx hb dX12_see_45 (by decide) ?_
      refine lv_iadd hx hb dX12_see_46 ?_
      refine lv_iload_n hx hb dX12_see_47 rfl (lv_at hl 2 rfl) ?_
      refine lv_if_eq (tgt := 55) hx hb dX12_see_48 (by decide) (fun c4 => ?_) (fun c4 => ?_)
      · have hrun := oz_t hrun c4
        refine lv_iconst (v := 0) hx hb dX12_see_55 (by decide) ?_
        obtain ⟨c5, hrun⟩ := oz_chk hrun
        refine va_iast hx hb hK hP hD hS 0 0 rfl rfl c5 dX12_see_56 (fun H locs hP hD hS => ?_)
        have hP : va_P (dC, dI) vwCl [(q_sights, .inl (cI, 12, .inl (upd (upd v_sights (Int32.toNatClampNeg (2 * v_sightMany)) a1) (Int32.toNatClampNeg ((2 * v_sightMany) + 1)) 0))), (q_this, .inr (12, [.ref q_town, .ref q_read, .ref q_now, .ref q_aside, .ref q_past, .int v_undos, .ref q_images, .ref q_kept, .long v_seed, .ref q_text, .int v_size, .int v_fault, .ref q_sights, .int v_sightMany, .ref q_book, .int v_bookMany, .int v_at, .int v_begin, .int v_sign, .int v_figures, .int v_value, .int v_wrong, .ref q_went, .ref q_free, .ref q_stands])), (q_town, .inl (cI, 27, .inl v_town))] H := hP
        have hD : va_D A [(q_sights, .inl (cI, 12, .inl (upd (upd v_sights (Int32.toNatClampNeg (2 * v_sightMany)) a1) (Int32.toNatClampNeg ((2 * v_sightMany) + 1)) 0))), (q_this, .inr (12, [.ref q_town, .ref q_read, .ref q_now, .ref q_aside, .ref q_past, .int v_undos, .ref q_images, .ref q_kept, .long v_seed, .ref q_text, .int v_size, .int v_fault, .ref q_sights, .int v_sightMany, .ref q_book, .int v_bookMany, .int v_at, .int v_begin, .int v_sign, .int v_figures, .int v_value, .int v_wrong, .ref q_went, .ref q_free, .ref q_stands])), (q_town, .inl (cI, 27, .inl v_town))] := hD
        refine lv_aload_n hx hb dX12_see_57 rfl (lv_at hl 0 rfl) ?_
        refine lv_dup hx hb dX12_see_58 rfl ?_
        refine va_get (D := (dC, dI)) (ci := 12) (v := .int v_sightMany) (C := RX12) (T := TX12) (N := 25) hx hb hts hiX12 hown hK hP 1 rfl rfl 13 (by decide) hk57 (fun _ h9 => h9) rfl dX12_see_59 ?_
        refine lv_iconst (v := 1) hx hb dX12_see_62 (by decide) ?_
        refine lv_iadd hx hb dX12_see_63 ?_
        refine va_put (D := (dC, dI)) (ci := 12) (v := .int (v_sightMany + 1)) (ty := .int) (C := RX12) (T := TX12) (N := 25) hx hb hts hiX12 tyX12 tyX12_ok nmX12 hown hK hP hD hS 1 rfl rfl 13 (by decide) hk57 (fun _ h9 => h9) rfl (by decide +kernel) rfl rfl (Nat.le_of_ble_eq_true rfl) dX12_see_64 (fun H locs hP hD hS => ?_)
        have hP : va_P (dC, dI) vwCl [(q_sights, .inl (cI, 12, .inl (upd (upd v_sights (Int32.toNatClampNeg (2 * v_sightMany)) a1) (Int32.toNatClampNeg ((2 * v_sightMany) + 1)) 0))), (q_this, .inr (12, [.ref q_town, .ref q_read, .ref q_now, .ref q_aside, .ref q_past, .int v_undos, .ref q_images, .ref q_kept, .long v_seed, .ref q_text, .int v_size, .int v_fault, .ref q_sights, .int (v_sightMany + 1), .ref q_book, .int v_bookMany, .int v_at, .int v_begin, .int v_sign, .int v_figures, .int v_value, .int v_wrong, .ref q_went, .ref q_free, .ref q_stands])), (q_town, .inl (cI, 27, .inl v_town))] H := hP
        have hD : va_D A [(q_sights, .inl (cI, 12, .inl (upd (upd v_sights (Int32.toNatClampNeg (2 * v_sightMany)) a1) (Int32.toNatClampNeg ((2 * v_sightMany) + 1)) 0))), (q_this, .inr (12, [.ref q_town, .ref q_read, .ref q_now, .ref q_aside, .ref q_past, .int v_undos, .ref q_images, .ref q_kept, .long v_seed, .ref q_text, .int v_size, .int v_fault, .ref q_sights, .int (v_sightMany + 1), .ref q_book, .int v_bookMany, .int v_at, .int v_begin, .int v_sign, .int v_figures, .int v_value, .int v_wrong, .ref q_went, .ref q_free, .ref q_stands])), (q_town, .inl (cI, 27, .inl v_town))] := hD
        refine lv_aload_n hx hb dX12_see_67 rfl (lv_at hl 0 rfl) ?_
        refine va_get (D := (dC, dI)) (ci := 12) (v := .int (v_sightMany + 1)) (C := RX12) (T := TX12) (N := 25) hx hb hts hiX12 hown hK hP 1 rfl rfl 13 (by decide) hk57 (fun _ h9 => h9) rfl dX12_see_68 ?_
        have ho9 := Option.some.inj hrun
        subst ho9
        have hP9 := hP.sub (ws' := [(q_this, .inr (12, [.ref q_town, .ref q_read, .ref q_now, .ref q_aside, .ref q_past, .int v_undos, .ref q_images, .ref q_kept, .long v_seed, .ref q_text, .int v_size, .int v_fault, .ref q_sights, .int (v_sightMany + 1), .ref q_book, .int v_bookMany, .int v_at, .int v_begin, .int v_sign, .int v_figures, .int v_value, .int v_wrong, .ref q_went, .ref q_free, .ref q_stands])), (q_town, .inl (cI, 27, .inl v_town)), (q_sights, .inl (cI, 12, .inl (upd (upd v_sights (Int32.toNatClampNeg (2 * v_sightMany)) a1) (Int32.toNatClampNeg ((2 * v_sightMany) + 1)) 0)))]) [1, 2, 0] rfl
        have hD9 := hD.sub (ws' := [(q_this, .inr (12, [.ref q_town, .ref q_read, .ref q_now, .ref q_aside, .ref q_past, .int v_undos, .ref q_images, .ref q_kept, .long v_seed, .ref q_text, .int v_size, .int v_fault, .ref q_sights, .int (v_sightMany + 1), .ref q_book, .int v_bookMany, .int v_at, .int v_begin, .int v_sign, .int v_figures, .int v_value, .int v_wrong, .ref q_went, .ref q_free, .ref q_stands])), (q_town, .inl (cI, 27, .inl v_town)), (q_sights, .inl (cI, 12, .inl (upd (upd v_sights (Int32.toNatClampNeg (2 * v_sightMany)) a1) (Int32.toNatClampNeg ((2 * v_sightMany) + 1)) 0)))]) [1, 2, 0] (by decide) rfl
        rw [hQ]
        exact W.iret (v := (v_sightMany + 1)) hx hb hr (fun t ht hW => ⟨⟨(v_sightMany + 1), (), rfl, rfl, by rw [ht]; exact hP9, va_K.moved hW.alike hK, hD9⟩, hS.F ht⟩) hS.2.2 dX12_see_71
      · have hrun := oz_f hrun c4
        refine lv_iconst (v := 1) hx hb dX12_see_51 (by decide) ?_
        refine lv_goto (tgt := 56) hx hb dX12_see_52 (by decide) ?_
        obtain ⟨c6, hrun⟩ := oz_chk hrun
        refine va_iast hx hb hK hP hD hS 0 0 rfl rfl c6 dX12_see_56 (fun H locs hP hD hS => ?_)
        have hP : va_P (dC, dI) vwCl [(q_sights, .inl (cI, 12, .inl (upd (upd v_sights (Int32.toNatClampNeg (2 * v_sightMany)) a1) (Int32.toNatClampNeg ((2 * v_sightMany) + 1)) 1))), (q_this, .inr (12, [.ref q_town, .ref q_read, .ref q_now, .ref q_aside, .ref q_past, .int v_undos, .ref q_images, .ref q_kept, .long v_seed, .ref q_text, .int v_size, .int v_fault, .ref q_sights, .int v_sightMany, .ref q_book, .int v_bookMany, .int v_at, .int v_begin, .int v_sign, .int v_figures, .int v_value, .int v_wrong, .ref q_went, .ref q_free, .ref q_stands])), (q_town, .inl (cI, 27, .inl v_town))] H := hP
        have hD : va_D A [(q_sights, .inl (cI, 12, .inl (upd (upd v_sights (Int32.toNatClampNeg (2 * v_sightMany)) a1) (Int32.toNatClampNeg ((2 * v_sightMany) + 1)) 1))), (q_this, .inr (12, [.ref q_town, .ref q_read, .ref q_now, .ref q_aside, .ref q_past, .int v_undos, .ref q_images, .ref q_kept, .long v_seed, .ref q_text, .int v_size, .int v_fault, .ref q_sights, .int v_sightMany, .ref q_book, .int v_bookMany, .int v_at, .int v_begin, .int v_sign, .int v_figures, .int v_value, .int v_wrong, .ref q_went, .ref q_free, .ref q_stands])), (q_town, .inl (cI, 27, .inl v_town))] := hD
        refine lv_aload_n hx hb dX12_see_57 rfl (lv_at hl 0 rfl) ?_
        refine lv_dup hx hb dX12_see_58 rfl ?_
        refine va_get (D := (dC, dI)) (ci := 12) (v := .int v_sightMany) (C := RX12) (T := TX12) (N := 25) hx hb hts hiX12 hown hK hP 1 rfl rfl 13 (by decide) hk57 (fun _ h9 => h9) rfl dX12_see_59 ?_
        refine lv_iconst (v := 1) hx hb dX12_see_62 (by decide) ?_
        refine lv_iadd hx hb dX12_see_63 ?_
        refine va_put (D := (dC, dI)) (ci := 12) (v := .int (v_sightMany + 1)) (ty := .int) (C := RX12) (T := TX12) (N := 25) hx hb hts hiX12 tyX12 tyX12_ok nmX12 hown hK hP hD hS 1 rfl rfl 13 (by decide) hk57 (fun _ h9 => h9) rfl (by decide +kernel) rfl rfl (Nat.le_of_ble_eq_true rfl) dX12_see_64 (fun H locs hP hD hS => ?_)
        have hP : va_P (dC, dI) vwCl [(q_sights, .inl (cI, 12, .inl (upd (upd v_sights (Int32.toNatClampNeg (2 * v_sightMany)) a1) (Int32.toNatClampNeg ((2 * v_sightMany) + 1)) 1))), (q_this, .inr (12, [.ref q_town, .ref q_read, .ref q_now, .ref q_aside, .ref q_past, .int v_undos, .ref q_images, .ref q_kept, .long v_seed, .ref q_text, .int v_size, .int v_fault, .ref q_sights, .int (v_sightMany + 1), .ref q_book, .int v_bookMany, .int v_at, .int v_begin, .int v_sign, .int v_figures, .int v_value, .int v_wrong, .ref q_went, .ref q_free, .ref q_stands])), (q_town, .inl (cI, 27, .inl v_town))] H := hP
        have hD : va_D A [(q_sights, .inl (cI, 12, .inl (upd (upd v_sights (Int32.toNatClampNeg (2 * v_sightMany)) a1) (Int32.toNatClampNeg ((2 * v_sightMany) + 1)) 1))), (q_this, .inr (12, [.ref q_town, .ref q_read, .ref q_now, .ref q_aside, .ref q_past, .int v_undos, .ref q_images, .ref q_kept, .long v_seed, .ref q_text, .int v_size, .int v_fault, .ref q_sights, .int (v_sightMany + 1), .ref q_book, .int v_bookMany, .int v_at, .int v_begin, .int v_sign, .int v_figures, .int v_value, .int v_wrong, .ref q_went, .ref q_free, .ref q_stands])), (q_town, .inl (cI, 27, .inl v_town))] := hD
        refine lv_aload_n hx hb dX12_see_67 rfl (lv_at hl 0 rfl) ?_
        refine va_get (D := (dC, dI)) (ci := 12) (v := .int (v_sightMany + 1)) (C := RX12) (T := TX12) (N := 25) hx hb hts hiX12 hown hK hP 1 rfl rfl 13 (by decide) hk57 (fun _ h9 => h9) rfl dX12_see_68 ?_
        have ho9 := Option.some.inj hrun
        subst ho9
        have hP9 := hP.sub (ws' := [(q_this, .inr (12, [.ref q_town, .ref q_read, .ref q_now, .ref q_aside, .ref q_past, .int v_undos, .ref q_images, .ref q_kept, .long v_seed, .ref q_text, .int v_size, .int v_fault, .ref q_sights, .int (v_sightMany + 1), .ref q_book, .int v_bookMany, .int v_at, .int v_begin, .int v_sign, .int v_figures, .int v_value, .int v_wrong, .ref q_went, .ref q_free, .ref q_stands])), (q_town, .inl (cI, 27, .inl v_town)), (q_sights, .inl (cI, 12, .inl (upd (upd v_sights (Int32.toNatClampNeg (2 * v_sightMany)) a1) (Int32.toNatClampNeg ((2 * v_sightMany) + 1)) 1)))]) [1, 2, 0] rfl
        have hD9 := hD.sub (ws' := [(q_this, .inr (12, [.ref q_town, .ref q_read, .ref q_now, .ref q_aside, .ref q_past, .int v_undos, .ref q_images, .ref q_kept, .long v_seed, .ref q_text, .int v_size, .int v_fault, .ref q_sights, .int (v_sightMany + 1), .ref q_book, .int v_bookMany, .int v_at, .int v_begin, .int v_sign, .int v_figures, .int v_value, .int v_wrong, .ref q_went, .ref q_free, .ref q_stands])), (q_town, .inl (cI, 27, .inl v_town)), (q_sights, .inl (cI, 12, .inl (upd (upd v_sights (Int32.toNatClampNeg (2 * v_sightMany)) a1) (Int32.toNatClampNeg ((2 * v_sightMany) + 1)) 1)))]) [1, 2, 0] (by decide) rfl
        rw [hQ]
        exact W.iret (v := (v_sightMany + 1)) hx hb hr (fun t ht hW => ⟨⟨(v_sightMany + 1), (), rfl, rfl, by rw [ht]; exact hP9, va_K.moved hW.alike hK, hD9⟩, hS.F ht⟩) hS.2.2 dX12_see_71
    · have hrun := oz_t hrun c2
      refine lv_ldc hx hb hown hk73 dX12_see_20 ?_
      have ho9 := Option.some.inj hrun
      subst ho9
      have hP9 := hP.sub (ws' := [(q_this, .inr (12, [.ref q_town, .ref q_read, .ref q_now, .ref q_aside, .ref q_past, .int v_undos, .ref q_images, .ref q_kept, .long v_seed, .ref q_text, .int v_size, .int v_fault, .ref q_sights, .int v_sightMany, .ref q_book, .int v_bookMany, .int v_at, .int v_begin, .int v_sign, .int v_figures, .int v_value, .int v_wrong, .ref q_went, .ref q_free, .ref q_stands])), (q_town, .inl (cI, 27, .inl v_town)), (q_sights, .inl (cI, 12, .inl v_sights))]) [1, 2, 0] rfl
      have hD9 := hD.sub (ws' := [(q_this, .inr (12, [.ref q_town, .ref q_read, .ref q_now, .ref q_aside, .ref q_past, .int v_undos, .ref q_images, .ref q_kept, .long v_seed, .ref q_text, .int v_size, .int v_fault, .ref q_sights, .int v_sightMany, .ref q_book, .int v_bookMany, .int v_at, .int v_begin, .int v_sign, .int v_figures, .int v_value, .int v_wrong, .ref q_went, .ref q_free, .ref q_stands])), (q_town, .inl (cI, 27, .inl v_town)), (q_sights, .inl (cI, 12, .inl v_sights))]) [1, 2, 0] (by decide) rfl
      rw [hQ]
      exact W.iret (v := (-1000000004)) hx hb hr (fun t ht hW => ⟨⟨(-1000000004), (), rfl, rfl, by rw [ht]; exact hP9, va_K.moved hW.alike hK, hD9⟩, hS.F ht⟩) hS.2.2 dX12_see_22
  · have hrun := oz_t hrun c1
    refine lv_ldc hx hb hown hk151 dX12_see_8 ?_
    have ho9 := Option.some.inj hrun
    subst ho9
    have hP9 := hP.sub (ws' := [(q_this, .inr (12, [.ref q_town, .ref q_read, .ref q_now, .ref q_aside, .ref q_past, .int v_undos, .ref q_images, .ref q_kept, .long v_seed, .ref q_text, .int v_size, .int v_fault, .ref q_sights, .int v_sightMany, .ref q_book, .int v_bookMany, .int v_at, .int v_begin, .int v_sign, .int v_figures, .int v_value, .int v_wrong, .ref q_went, .ref q_free, .ref q_stands])), (q_town, .inl (cI, 27, .inl v_town)), (q_sights, .inl (cI, 12, .inl v_sights))]) [1, 2, 0] rfl
    have hD9 := hD.sub (ws' := [(q_this, .inr (12, [.ref q_town, .ref q_read, .ref q_now, .ref q_aside, .ref q_past, .int v_undos, .ref q_images, .ref q_kept, .long v_seed, .ref q_text, .int v_size, .int v_fault, .ref q_sights, .int v_sightMany, .ref q_book, .int v_bookMany, .int v_at, .int v_begin, .int v_sign, .int v_figures, .int v_value, .int v_wrong, .ref q_went, .ref q_free, .ref q_stands])), (q_town, .inl (cI, 27, .inl v_town)), (q_sights, .inl (cI, 12, .inl v_sights))]) [1, 2, 0] (by decide) rfl
    rw [hQ]
    exact W.iret (v := (-1000000001)) hx hb hr (fun t ht hW => ⟨⟨(-1000000001), (), rfl, rfl, by rw [ht]; exact hP9, va_K.moved hW.alike hK, hD9⟩, hS.F ht⟩) hS.2.2 dX12_see_10
def fX12_whence_b13 (v_sightMany : Int32) (v_town : Nat → Int32) (v_sights : Nat → Int32) (w13 : Int32 × Int32) : Option ((Int32 × Int32) ⊕ (Int32 × Int32)) :=
  if v_sightMany ≤ w13.1 then (some (.inr (w13.1, w13.2))) else (if ((2 * w13.1) < 0 ∨ 12 ≤ Int32.toNatClampNeg (2 * w13.1)) then none else Option.bind (fX12_above v_town (v_sights (Int32.toNatClampNeg (2 * w13.1)))) (fun y30 => if (((2 * w13.1) + 1) < 0 ∨ 12 ≤ Int32.toNatClampNeg ((2 * w13.1) + 1)) then none else if (v_sights (Int32.toNatClampNeg ((2 * w13.1) + 1))) = 1 then (some (.inl ((w13.1 + 1), (w13.2 &&& y30)))) else (some (.inl ((w13.1 + 1), (w13.2 &&& (y30 ^^^ (-1))))))))
def fX12_whence (v_sightMany : Int32) (v_town : Nat → Int32) (v_sights : Nat → Int32) : Option (Int32) :=
  Option.bind (oz_loop (fX12_whence_b13 v_sightMany v_town v_sights) oz_fuel (0, ((1 <<< ((v_town (Int32.toNatClampNeg 2)) &&& 31)) - 1))) (fun o13 => some o13.2)
def rmX12_whence : Room := { frames := 1, cells := 0, slots := 0, locals := 24 }
set_option maxHeartbeats 4000000 in
set_option maxRecDepth 100000 in
theorem tX12_whence (l : Launch) (dC : Nat → ClassId) (dI : Nat → Nat → Nat) (cI cZ : ClassId) (q_aside q_book q_free q_images q_kept q_now q_past q_read q_sights q_stands q_text q_this q_town q_went : Nat) (sz : Nat) (v_undos : Int32) (v_seed : Int64) (v_size : Int32) (v_fault : Int32) (v_bookMany : Int32) (v_at : Int32) (v_begin : Int32) (v_sign : Int32) (v_figures : Int32) (v_value : Int32) (v_wrong : Int32) (v_sightMany : Int32) (v_town : Nat → Int32) (v_sights : Nat → Int32) (out : Int32) (hrun : fX12_whence v_sightMany v_town v_sights = some out) : Met l yX12_whence wsX12_whence rmX12_whence (va_Pc [.ref q_this] (fun U => U.heap.size = sz ∧ va_P (dC, dI) vwCl [(q_this, .inr (12, [.ref q_town, .ref q_read, .ref q_now, .ref q_aside, .ref q_past, .int v_undos, .ref q_images, .ref q_kept, .long v_seed, .ref q_text, .int v_size, .int v_fault, .ref q_sights, .int v_sightMany, .ref q_book, .int v_bookMany, .int v_at, .int v_begin, .int v_sign, .int v_figures, .int v_value, .int v_wrong, .ref q_went, .ref q_free, .ref q_stands])), (q_town, .inl (cI, 27, .inl v_town)), (q_sights, .inl (cI, 12, .inl v_sights))] U.heap ∧ va_K (dC, dI) vwCl [(cI, .int), (cZ, .boolean)] U ∧ va_D (fun _ => True) [(q_this, .inr (12, [.ref q_town, .ref q_read, .ref q_now, .ref q_aside, .ref q_past, .int v_undos, .ref q_images, .ref q_kept, .long v_seed, .ref q_text, .int v_size, .int v_fault, .ref q_sights, .int v_sightMany, .ref q_book, .int v_bookMany, .int v_at, .int v_begin, .int v_sign, .int v_figures, .int v_value, .int v_wrong, .ref q_went, .ref q_free, .ref q_stands])), (q_town, .inl (cI, 27, .inl v_town)), (q_sights, .inl (cI, 12, .inl v_sights))])) (va_Qi (fun (r : Int32) (_ : Unit) => r = out) (fun _ t => va_P (dC, dI) vwCl [(q_this, .inr (12, [.ref q_town, .ref q_read, .ref q_now, .ref q_aside, .ref q_past, .int v_undos, .ref q_images, .ref q_kept, .long v_seed, .ref q_text, .int v_size, .int v_fault, .ref q_sights, .int v_sightMany, .ref q_book, .int v_bookMany, .int v_at, .int v_begin, .int v_sign, .int v_figures, .int v_value, .int v_wrong, .ref q_went, .ref q_free, .ref q_stands])), (q_town, .inl (cI, 27, .inl v_town)), (q_sights, .inl (cI, 12, .inl v_sights))] t.heap ∧ va_K (dC, dI) vwCl [(cI, .int), (cZ, .boolean)] t ∧ va_D (va_A [(q_this, .inr (12, [.ref q_town, .ref q_read, .ref q_now, .ref q_aside, .ref q_past, .int v_undos, .ref q_images, .ref q_kept, .long v_seed, .ref q_text, .int v_size, .int v_fault, .ref q_sights, .int v_sightMany, .ref q_book, .int v_bookMany, .int v_at, .int v_begin, .int v_sign, .int v_figures, .int v_value, .int v_wrong, .ref q_went, .ref q_free, .ref q_stands])), (q_town, .inl (cI, 27, .inl v_town)), (q_sights, .inl (cI, 12, .inl v_sights))] sz) [(q_this, .inr (12, [.ref q_town, .ref q_read, .ref q_now, .ref q_aside, .ref q_past, .int v_undos, .ref q_images, .ref q_kept, .long v_seed, .ref q_text, .int v_size, .int v_fault, .ref q_sights, .int v_sightMany, .ref q_book, .int v_bookMany, .int v_at, .int v_begin, .int v_sign, .int v_figures, .int v_value, .int v_wrong, .ref q_went, .ref q_free, .ref q_stands])), (q_town, .inl (cI, 27, .inl v_town)), (q_sights, .inl (cI, 12, .inl v_sights))]) (va_A [(q_this, .inr (12, [.ref q_town, .ref q_read, .ref q_now, .ref q_aside, .ref q_past, .int v_undos, .ref q_images, .ref q_kept, .long v_seed, .ref q_text, .int v_size, .int v_fault, .ref q_sights, .int v_sightMany, .ref q_book, .int v_bookMany, .int v_at, .int v_begin, .int v_sign, .int v_figures, .int v_value, .int v_wrong, .ref q_went, .ref q_free, .ref q_stands])), (q_town, .inl (cI, 27, .inl v_town)), (q_sights, .inl (cI, 12, .inl v_sights))] sz)) 0 0 (va_A [(q_this, .inr (12, [.ref q_town, .ref q_read, .ref q_now, .ref q_aside, .ref q_past, .int v_undos, .ref q_images, .ref q_kept, .long v_seed, .ref q_text, .int v_size, .int v_fault, .ref q_sights, .int v_sightMany, .ref q_book, .int v_bookMany, .int v_at, .int v_begin, .int v_sign, .int v_figures, .int v_value, .int v_wrong, .ref q_went, .ref q_free, .ref q_stands])), (q_town, .inl (cI, 27, .inl v_town)), (q_sights, .inl (cI, 12, .inl v_sights))] sz) := by
  refine Met.ofW (cc := cX12_whence) (maxL := 4) (ret := (some .int)) (by decide) rfl ?_
  intro p e s m args below meth c s₁ B hml hv
  obtain ⟨rfl, hsz, hP, hK, hD0⟩ := hv
  have hx := B.exec
  have hb := B.bytes
  have hr := B.returns
  have hts := atoms_spec (ws := wsX12_whence) B.pre
  have hown : s.vm.findClass RX12 = some m.cls := findClass_of_methodNamed B.named
  have hlocks := B.notSynchronized
  subst hsz
  have hD := hD0.self (sz := s.heap.size)
  generalize hAe : va_A [(q_this, .inr (12, [.ref q_town, .ref q_read, .ref q_now, .ref q_aside, .ref q_past, .int v_undos, .ref q_images, .ref q_kept, .long v_seed, .ref q_text, .int v_size, .int v_fault, .ref q_sights, .int v_sightMany, .ref q_book, .int v_bookMany, .int v_at, .int v_begin, .int v_sign, .int v_figures, .int v_value, .int v_wrong, .ref q_went, .ref q_free, .ref q_stands])), (q_town, .inl (cI, 27, .inl v_town)), (q_sights, .inl (cI, 12, .inl v_sights))] s.heap.size = A at hD ⊢
  have hA : ∀ q : Nat, s.heap.size ≤ q → A q := fun q h => by rw [← hAe]; exact Or.inr h
  have hS : va_S A s.heap s.heap [] := va_S.rf
  have hl := lv_entry ([.ref q_this]) (n := 4) (Nat.le_of_ble_eq_true rfl)
  rw [lg_entry_eq]
  generalize (lg_sl ([.ref q_this]) ++ List.replicate (4 - (lg_sl ([.ref q_this])).length) Slot.unset).toArray = ls at hl ⊢
  have hl : lv_has ls 4 [(0, .ref q_this)] := hl
  unfold fX12_whence at hrun
  have hk7 := hts (.fieldLink RX12 7 "LentDrainsModel" "town" "[I") (by decide +kernel)
  have hiX12 : ∀ w ∈ wsX120, w ∈ wsX12_whence := by decide +kernel
  have hk57 := hts (.fieldLink RX12 57 "LentDrainsModel" "sightMany" "I") (by decide +kernel)
  have hk39 := hts (.fieldLink RX12 39 "LentDrainsModel" "sights" "[I") (by decide +kernel)
  refine oz_genQ (fun Q hQ => ?_)
  refine lv_iconst (v := 1) hx hb dX12_whence_0 (by decide) ?_
  refine lv_aload_n hx hb dX12_whence_1 rfl (lv_at hl 0 rfl) ?_
  refine va_get (D := (dC, dI)) (ci := 12) (v := .ref q_town) (C := RX12) (T := TX12) (N := 25) hx hb hts hiX12 hown hK hP 0 rfl rfl 0 (by decide) hk7 (fun _ h9 => h9) rfl dX12_whence_2 ?_
  refine lv_iconst (v := 2) hx hb dX12_whence_5 (by decide) ?_
  refine va_iald hx hb hK hP 1 0 rfl rfl (show ¬ ((2 : Int32) < 0 ∨ 27 ≤ (2 : Int32).toNatClampNeg) by decide) dX12_whence_6 ?_
  refine lv_ishl hx hb dX12_whence_7 ?_
  refine lv_iconst (v := 1) hx hb dX12_whence_8 (by decide) ?_
  refine lv_isub hx hb dX12_whence_9 ?_
  refine lv_istore_n (lv' := [(1, .int ((1 <<< ((v_town (Int32.toNatClampNeg 2)) &&& 31)) - 1)), (0, .ref q_this)]) hx hb dX12_whence_10 rfl hl (by decide) rfl (fun ls hl => ?_)
  refine lv_iconst (v := 0) hx hb dX12_whence_11 (by decide) ?_
  refine lv_istore_n (lv' := [(2, .int 0), (1, .int ((1 <<< ((v_town (Int32.toNatClampNeg 2)) &&& 31)) - 1)), (0, .ref q_this)]) hx hb dX12_whence_12 rfl hl (by decide) rfl (fun ls hl => ?_)
  obtain ⟨o13, hlp13, hrun⟩ := oz_bind hrun
  have hL13 : ∀ (n : Nat) (w13 : Int32 × Int32) (o13 : Int32 × Int32), oz_loop (fX12_whence_b13 v_sightMany v_town v_sights) n w13 = some o13 → (∀ (H : Heap) (locs : List Loc) (ls : Array Slot), va_P (dC, dI) vwCl [(q_this, .inr (12, [.ref q_town, .ref q_read, .ref q_now, .ref q_aside, .ref q_past, .int v_undos, .ref q_images, .ref q_kept, .long v_seed, .ref q_text, .int v_size, .int v_fault, .ref q_sights, .int v_sightMany, .ref q_book, .int v_bookMany, .int v_at, .int v_begin, .int v_sign, .int v_figures, .int v_value, .int v_wrong, .ref q_went, .ref q_free, .ref q_stands])), (q_town, .inl (cI, 27, .inl v_town)), (q_sights, .inl (cI, 12, .inl v_sights))] H → va_D A [(q_this, .inr (12, [.ref q_town, .ref q_read, .ref q_now, .ref q_aside, .ref q_past, .int v_undos, .ref q_images, .ref q_kept, .long v_seed, .ref q_text, .int v_size, .int v_fault, .ref q_sights, .int v_sightMany, .ref q_book, .int v_bookMany, .int v_at, .int v_begin, .int v_sign, .int v_figures, .int v_value, .int v_wrong, .ref q_went, .ref q_free, .ref q_stands])), (q_town, .inl (cI, 27, .inl v_town)), (q_sights, .inl (cI, 12, .inl v_sights))] → va_S A s.heap H locs → lv_has ls 4 [(2, .int o13.1), (1, .int o13.2), (0, .ref q_this)] → W p l e (headSpec wsX12_whence rmX12_whence).room s m (([.ref q_this] : List Value).toArray) below meth c H locs 0 0 Q (F0 m 64 ls [])) → ∀ (H : Heap) (locs : List Loc) (ls : Array Slot), va_P (dC, dI) vwCl [(q_this, .inr (12, [.ref q_town, .ref q_read, .ref q_now, .ref q_aside, .ref q_past, .int v_undos, .ref q_images, .ref q_kept, .long v_seed, .ref q_text, .int v_size, .int v_fault, .ref q_sights, .int v_sightMany, .ref q_book, .int v_bookMany, .int v_at, .int v_begin, .int v_sign, .int v_figures, .int v_value, .int v_wrong, .ref q_went, .ref q_free, .ref q_stands])), (q_town, .inl (cI, 27, .inl v_town)), (q_sights, .inl (cI, 12, .inl v_sights))] H → va_D A [(q_this, .inr (12, [.ref q_town, .ref q_read, .ref q_now, .ref q_aside, .ref q_past, .int v_undos, .ref q_images, .ref q_kept, .long v_seed, .ref q_text, .int v_size, .int v_fault, .ref q_sights, .int v_sightMany, .ref q_book, .int v_bookMany, .int v_at, .int v_begin, .int v_sign, .int v_figures, .int v_value, .int v_wrong, .ref q_went, .ref q_free, .ref q_stands])), (q_town, .inl (cI, 27, .inl v_town)), (q_sights, .inl (cI, 12, .inl v_sights))] → va_S A s.heap H locs → lv_has ls 4 [(2, .int w13.1), (1, .int w13.2), (0, .ref q_this)] → W p l e (headSpec wsX12_whence rmX12_whence).room s m (([.ref q_this] : List Value).toArray) below meth c H locs 0 0 Q (F0 m 13 ls []) := by
    intro n
    induction n with
    | zero => intro w13 o13 h9; exact (oz_zero h9).elim
    | succ n ih =>
      intro w13 o13 h9 hexit H locs ls hP hD hS hl
      obtain ⟨r9, hrun, hnext⟩ := oz_step h9
      unfold fX12_whence_b13 at hrun
      refine lv_iload_n hx hb dX12_whence_13 rfl (lv_at hl 0 rfl) ?_
      refine lv_aload_n hx hb dX12_whence_14 rfl (lv_at hl 2 rfl) ?_
      refine va_get (D := (dC, dI)) (ci := 12) (v := .int v_sightMany) (C := RX12) (T := TX12) (N := 25) hx hb hts hiX12 hown hK hP 0 rfl rfl 13 (by decide) hk57 (fun _ h9 => h9) rfl dX12_whence_15 ?_
      refine lv_icmp_ge (tgt := 64) hx hb dX12_whence_18 (by decide) (fun c1 => ?_) (fun c1 => ?_)
      · have hrun := oz_t hrun c1
        have hr9 := Option.some.inj hrun
        subst hr9
        have ho9 : (w13.1, w13.2) = o13 := hnext
        subst ho9
        exact hexit _ _ _ (hP.sub [0, 1, 2] rfl) (hD.sub [0, 1, 2] (by decide) rfl) hS (lv_sub hl [0, 1, 2] rfl)
      · have hrun := oz_f hrun c1
        refine lv_aload_n hx hb dX12_whence_21 rfl (lv_at hl 2 rfl) ?_
        refine lv_aload_n hx hb dX12_whence_22 rfl (lv_at hl 2 rfl) ?_
        refine va_get (D := (dC, dI)) (ci := 12) (v := .ref q_sights) (C := RX12) (T := TX12) (N := 25) hx hb hts hiX12 hown hK hP 0 rfl rfl 12 (by decide) hk39 (fun _ h9 => h9) rfl dX12_whence_23 ?_
        refine lv_iconst (v := 2) hx hb dX12_whence_26 (by decide) ?_
        refine lv_iload_n hx hb dX12_whence_27 rfl (lv_at hl 0 rfl) ?_
        refine lv_imul hx hb dX12_whence_28 ?_
        obtain ⟨c2, hrun⟩ := oz_chk hrun
        refine va_iald hx hb hK hP 2 0 rfl rfl c2 dX12_whence_29 ?_
        obtain ⟨y30, hc30, hrun⟩ := oz_bind hrun
        have hPc := hP.sub (ws' := [(q_this, .inr (12, [.ref q_town, .ref q_read, .ref q_now, .ref q_aside, .ref q_past, .int v_undos, .ref q_images, .ref q_kept, .long v_seed, .ref q_text, .int v_size, .int v_fault, .ref q_sights, .int v_sightMany, .ref q_book, .int v_bookMany, .int v_at, .int v_begin, .int v_sign, .int v_figures, .int v_value, .int v_wrong, .ref q_went, .ref q_free, .ref q_stands])), (q_town, .inl (cI, 27, .inl v_town))]) [0, 1] rfl
        have hDc := hD.sub (ws' := [(q_this, .inr (12, [.ref q_town, .ref q_read, .ref q_now, .ref q_aside, .ref q_past, .int v_undos, .ref q_images, .ref q_kept, .long v_seed, .ref q_text, .int v_size, .int v_fault, .ref q_sights, .int v_sightMany, .ref q_book, .int v_bookMany, .int v_at, .int v_begin, .int v_sign, .int v_figures, .int v_value, .int v_wrong, .ref q_went, .ref q_free, .ref q_stands])), (q_town, .inl (cI, 27, .inl v_town))]) [0, 1] (by decide) rfl
        have hFc := va_free (wc := [(q_this, .inr (12, [.ref q_town, .ref q_read, .ref q_now, .ref q_aside, .ref q_past, .int v_undos, .ref q_images, .ref q_kept, .long v_seed, .ref q_text, .int v_size, .int v_fault, .ref q_sights, .int v_sightMany, .ref q_book, .int v_bookMany, .int v_at, .int v_begin, .int v_sign, .int v_figures, .int v_value, .int v_wrong, .ref q_went, .ref q_free, .ref q_stands])), (q_town, .inl (cI, 27, .inl v_town))]) hD hS hA [0, 1] rfl
        refine va_calli (va_runV (As := [.int (v_sights (Int32.toNatClampNeg (2 * w13.1)))]) (rest := []) ⟨hx, hb, hml, hown, hts⟩ (tX12_above l dC dI cI cZ q_aside q_book q_free q_images q_kept q_now q_past q_read q_sights q_stands q_text q_this q_town q_went H.size v_undos v_seed v_size v_fault v_sightMany v_bookMany v_at v_begin v_sign v_figures v_value v_wrong v_town (v_sights (Int32.toNatClampNeg (2 * w13.1))) y30 hc30) (cwV 1 hts gX12_whence_X12_above rfl rfl rfl (by decide +kernel) ⟨Nat.le_of_ble_eq_true rfl, Nat.le_of_ble_eq_true rfl⟩) ⟨fun a U g mk q => by obtain ⟨q0, q1, qP, qK, qD⟩ := q; exact ⟨q0, q1, qP, va_K.moved (u := U) (U := U.calling g mk a) (Vm.Alike.refl U.vm) qK, qD⟩, va_recv hK hPc (ci := 12) (q0 := 0) rfl rfl, fun U hU hW => ⟨rfl, by rw [hU], by rw [hU]; exact hPc, va_K.moved hW.alike hK, hDc.weaken (fun _ _ _ _ => trivial)⟩⟩ rfl rfl hl.1 rfl (lv_room (Nat.le_of_ble_eq_true rfl)) dX12_whence_30 ⟨Nat.le_of_ble_eq_true rfl, Nat.le_of_ble_eq_true rfl⟩) hS (fun q _ h => hFc q h) hFc (fun r30 u9 t9 H1 locs ht9 hvm9 hw9 hB9 hz9 hkk9 hS => ?_)
        have hw9 : y30 = r30 := hw9.symm
        subst hw9
        obtain ⟨hP9, hK9, hD9⟩ := hB9
        rw [ht9] at hP9
        obtain ⟨hP, hD⟩ := va_join (wr := [(q_sights, .inl (cI, 12, .inl v_sights))]) (w1 := [(q_this, .inr (12, [.ref q_town, .ref q_read, .ref q_now, .ref q_aside, .ref q_past, .int v_undos, .ref q_images, .ref q_kept, .long v_seed, .ref q_text, .int v_size, .int v_fault, .ref q_sights, .int v_sightMany, .ref q_book, .int v_bookMany, .int v_at, .int v_begin, .int v_sign, .int v_figures, .int v_value, .int v_wrong, .ref q_went, .ref q_free, .ref q_stands])), (q_town, .inl (cI, 27, .inl v_town))]) hP hD [0, 1] [2] rfl rfl (by decide) (by decide) hkk9 hFc hP9 hD9
        generalize H1 = H at hP hS ⊢
        have hP : va_P (dC, dI) vwCl [(q_sights, .inl (cI, 12, .inl v_sights)), (q_this, .inr (12, [.ref q_town, .ref q_read, .ref q_now, .ref q_aside, .ref q_past, .int v_undos, .ref q_images, .ref q_kept, .long v_seed, .ref q_text, .int v_size, .int v_fault, .ref q_sights, .int v_sightMany, .ref q_book, .int v_bookMany, .int v_at, .int v_begin, .int v_sign, .int v_figures, .int v_value, .int v_wrong, .ref q_went, .ref q_free, .ref q_stands])), (q_town, .inl (cI, 27, .inl v_town))] H := hP
        have hD : va_D A [(q_sights, .inl (cI, 12, .inl v_sights)), (q_this, .inr (12, [.ref q_town, .ref q_read, .ref q_now, .ref q_aside, .ref q_past, .int v_undos, .ref q_images, .ref q_kept, .long v_seed, .ref q_text, .int v_size, .int v_fault, .ref q_sights, .int v_sightMany, .ref q_book, .int v_bookMany, .int v_at, .int v_begin, .int v_sign, .int v_figures, .int v_value, .int v_wrong, .ref q_went, .ref q_free, .ref q_stands])), (q_town, .inl (cI, 27, .inl v_town))] := hD
        refine lv_istore_n (lv' := [(3, .int y30), (2, .int w13.1), (1, .int w13.2), (0, .ref q_this)]) hx hb dX12_whence_33 rfl hl (by decide) rfl (fun ls hl => ?_)
        refine lv_iload_n hx hb dX12_whence_34 rfl (lv_at hl 2 rfl) ?_
        refine lv_aload_n hx hb dX12_whence_35 rfl (lv_at hl 3 rfl) ?_
        refine va_get (D := (dC, dI)) (ci := 12) (v := .ref q_sights) (C := RX12) (T := TX12) (N := 25) hx hb hts hiX12 hown hK hP 1 rfl rfl 12 (by decide) hk39 (fun _ h9 => h9) rfl dX12_whence_36 ?_
        refine lv_iconst (v := 2) hx hb dX12_whence_39 (by decide) ?_
        refine lv_iload_n hx hb dX12_whence_40 rfl (lv_at hl 1 rfl) ?_
        refine lv_imul hx hb dX12_whence_41 ?_
        refine lv_iconst (v := 1) hx hb dX12_whence_42 (by decide) ?_
        refine lv_iadd hx hb dX12_whence_43 ?_
        obtain ⟨c3, hrun⟩ := oz_chk hrun
        refine va_iald hx hb hK hP 0 0 rfl rfl c3 dX12_whence_44 ?_
        refine lv_iconst (v := 1) hx hb dX12_whence_45 (by decide) ?_
        refine lv_icmp_ne (tgt := 53) hx hb dX12_whence_46 (by decide) (fun c4 => ?_) (fun c4 => ?_)
        · have hrun := oz_f hrun c4
          refine lv_iload_n hx hb dX12_whence_53 rfl (lv_at hl 0 rfl) ?_
          refine lv_iconst (v := (-1)) hx hb dX12_whence_54 (by decide) ?_
          refine lv_ixor hx hb dX12_whence_55 ?_
          refine lv_iand hx hb dX12_whence_56 ?_
          refine lv_istore_n (lv' := [(1, .int (w13.2 &&& (y30 ^^^ (-1)))), (3, .int y30), (2, .int w13.1), (0, .ref q_this)]) hx hb dX12_whence_57 rfl hl (by decide) rfl (fun ls hl => ?_)
          refine lv_iinc (v := (w13.1 + 1)) (lv' := [(2, .int (w13.1 + 1)), (1, .int (w13.2 &&& (y30 ^^^ (-1)))), (3, .int y30), (0, .ref q_this)]) hx hb dX12_whence_58 hl (k := 2) rfl rfl (by decide) rfl (fun ls hl => ?_)
          refine lv_goto (tgt := 13) hx hb dX12_whence_61 (by decide) ?_
          have hr9 := Option.some.inj hrun
          subst hr9
          exact ih ((w13.1 + 1), (w13.2 &&& (y30 ^^^ (-1)))) _ hnext hexit _ _ _ (hP.sub [1, 2, 0] rfl) (hD.sub [1, 2, 0] (by decide) rfl) hS (lv_sub hl [0, 1, 3] rfl)
        · have hrun := oz_t hrun c4
          refine lv_iload_n hx hb dX12_whence_49 rfl (lv_at hl 0 rfl) ?_
          refine lv_goto (tgt := 56) hx hb dX12_whence_50 (by decide) ?_
          refine lv_iand hx hb dX12_whence_56 ?_
          refine lv_istore_n (lv' := [(1, .int (w13.2 &&& y30)), (3, .int y30), (2, .int w13.1), (0, .ref q_this)]) hx hb dX12_whence_57 rfl hl (by decide) rfl (fun ls hl => ?_)
          refine lv_iinc (v := (w13.1 + 1)) (lv' := [(2, .int (w13.1 + 1)), (1, .int (w13.2 &&& y30)), (3, .int y30), (0, .ref q_this)]) hx hb dX12_whence_58 hl (k := 2) rfl rfl (by decide) rfl (fun ls hl => ?_)
          refine lv_goto (tgt := 13) hx hb dX12_whence_61 (by decide) ?_
          have hr9 := Option.some.inj hrun
          subst hr9
          exact ih ((w13.1 + 1), (w13.2 &&& y30)) _ hnext hexit _ _ _ (hP.sub [1, 2, 0] rfl) (hD.sub [1, 2, 0] (by decide) rfl) hS (lv_sub hl [0, 1, 3] rfl)
  refine hL13 oz_fuel (0, ((1 <<< ((v_town (Int32.toNatClampNeg 2)) &&& 31)) - 1)) o13 hlp13 (fun H locs ls hP hD hS hl => ?_) _ _ _ (hP.sub [0, 1, 2] rfl) (hD.sub [0, 1, 2] (by decide) rfl) hS (lv_sub hl [0, 1, 2] rfl)
  have hP : va_P (dC, dI) vwCl [(q_this, .inr (12, [.ref q_town, .ref q_read, .ref q_now, .ref q_aside, .ref q_past, .int v_undos, .ref q_images, .ref q_kept, .long v_seed, .ref q_text, .int v_size, .int v_fault, .ref q_sights, .int v_sightMany, .ref q_book, .int v_bookMany, .int v_at, .int v_begin, .int v_sign, .int v_figures, .int v_value, .int v_wrong, .ref q_went, .ref q_free, .ref q_stands])), (q_town, .inl (cI, 27, .inl v_town)), (q_sights, .inl (cI, 12, .inl v_sights))] H := hP
  have hD : va_D A [(q_this, .inr (12, [.ref q_town, .ref q_read, .ref q_now, .ref q_aside, .ref q_past, .int v_undos, .ref q_images, .ref q_kept, .long v_seed, .ref q_text, .int v_size, .int v_fault, .ref q_sights, .int v_sightMany, .ref q_book, .int v_bookMany, .int v_at, .int v_begin, .int v_sign, .int v_figures, .int v_value, .int v_wrong, .ref q_went, .ref q_free, .ref q_stands])), (q_town, .inl (cI, 27, .inl v_town)), (q_sights, .inl (cI, 12, .inl v_sights))] := hD
  have hl : lv_has ls 4 [(2, .int o13.1), (1, .int o13.2), (0, .ref q_this)] := hl
  refine lv_iload_n hx hb dX12_whence_64 rfl (lv_at hl 1 rfl) ?_
  have ho9 := Option.some.inj hrun
  subst ho9
  have hP9 := hP.sub (ws' := [(q_this, .inr (12, [.ref q_town, .ref q_read, .ref q_now, .ref q_aside, .ref q_past, .int v_undos, .ref q_images, .ref q_kept, .long v_seed, .ref q_text, .int v_size, .int v_fault, .ref q_sights, .int v_sightMany, .ref q_book, .int v_bookMany, .int v_at, .int v_begin, .int v_sign, .int v_figures, .int v_value, .int v_wrong, .ref q_went, .ref q_free, .ref q_stands])), (q_town, .inl (cI, 27, .inl v_town)), (q_sights, .inl (cI, 12, .inl v_sights))]) [0, 1, 2] rfl
  have hD9 := hD.sub (ws' := [(q_this, .inr (12, [.ref q_town, .ref q_read, .ref q_now, .ref q_aside, .ref q_past, .int v_undos, .ref q_images, .ref q_kept, .long v_seed, .ref q_text, .int v_size, .int v_fault, .ref q_sights, .int v_sightMany, .ref q_book, .int v_bookMany, .int v_at, .int v_begin, .int v_sign, .int v_figures, .int v_value, .int v_wrong, .ref q_went, .ref q_free, .ref q_stands])), (q_town, .inl (cI, 27, .inl v_town)), (q_sights, .inl (cI, 12, .inl v_sights))]) [0, 1, 2] (by decide) rfl
  rw [hQ]
  exact W.iret (v := o13.2) hx hb hr (fun t ht hW => ⟨⟨o13.2, (), rfl, rfl, by rw [ht]; exact hP9, va_K.moved hW.alike hK, hD9⟩, hS.F ht⟩) hS.2.2 dX12_whence_65
def fX12_lookAt_b18 (v_town : Nat → Int32) (y1 : Int32) (y6 : Int32) (w18 : Int32 × Int32 × Int32) : Option ((Int32 × Int32 × Int32) ⊕ (Int32 × Int32 × Int32)) :=
  if (v_town (Int32.toNatClampNeg 2)) ≤ w18.1 then (some (.inr (w18.1, w18.2.1, w18.2.2))) else (Option.bind (fX12_above v_town w18.1) (fun y33 => Option.bind (fX12_bits (y1 &&& y33)) (fun y37 => if y37 ≤ (y6 - y37) then (if w18.2.2 ≤ (y6 - y37) then (Option.bind (fX12_lesser (y6 - y37) w18.2.2) (fun y80 => some (.inl ((w18.1 + 1), w18.2.1, y80)))) else (Option.bind (fX12_lesser (y6 - y37) w18.2.2) (fun y80 => some (.inl ((w18.1 + 1), w18.1, y80))))) else (if w18.2.2 ≤ y37 then (Option.bind (fX12_lesser y37 w18.2.2) (fun y80 => some (.inl ((w18.1 + 1), w18.2.1, y80)))) else (Option.bind (fX12_lesser y37 w18.2.2) (fun y80 => some (.inl ((w18.1 + 1), w18.1, y80))))))))
def fX12_lookAt (v_sightMany : Int32) (v_town : Nat → Int32) (v_sights : Nat → Int32) : Option (Int32) :=
  Option.bind (fX12_whence v_sightMany v_town v_sights) (fun y1 => Option.bind (fX12_bits y1) (fun y6 => Option.bind (oz_loop (fX12_lookAt_b18 v_town y1 y6) oz_fuel (0, (-1), y6)) (fun o18 => some o18.2.1)))
def rmX12_lookAt : Room := { frames := 2, cells := 0, slots := 0, locals := 47 }
set_option maxHeartbeats 4000000 in
set_option maxRecDepth 100000 in
theorem tX12_lookAt (l : Launch) (dC : Nat → ClassId) (dI : Nat → Nat → Nat) (cI cZ : ClassId) (q_aside q_book q_free q_images q_kept q_now q_past q_read q_sights q_stands q_text q_this q_town q_went : Nat) (sz : Nat) (v_undos : Int32) (v_seed : Int64) (v_size : Int32) (v_fault : Int32) (v_bookMany : Int32) (v_at : Int32) (v_begin : Int32) (v_sign : Int32) (v_figures : Int32) (v_value : Int32) (v_wrong : Int32) (v_sightMany : Int32) (v_town : Nat → Int32) (v_sights : Nat → Int32) (out : Int32) (hrun : fX12_lookAt v_sightMany v_town v_sights = some out) : Met l yX12_lookAt wsX12_lookAt rmX12_lookAt (va_Pc [.ref q_this] (fun U => U.heap.size = sz ∧ va_P (dC, dI) vwCl [(q_this, .inr (12, [.ref q_town, .ref q_read, .ref q_now, .ref q_aside, .ref q_past, .int v_undos, .ref q_images, .ref q_kept, .long v_seed, .ref q_text, .int v_size, .int v_fault, .ref q_sights, .int v_sightMany, .ref q_book, .int v_bookMany, .int v_at, .int v_begin, .int v_sign, .int v_figures, .int v_value, .int v_wrong, .ref q_went, .ref q_free, .ref q_stands])), (q_town, .inl (cI, 27, .inl v_town)), (q_sights, .inl (cI, 12, .inl v_sights))] U.heap ∧ va_K (dC, dI) vwCl [(cI, .int), (cZ, .boolean)] U ∧ va_D (fun _ => True) [(q_this, .inr (12, [.ref q_town, .ref q_read, .ref q_now, .ref q_aside, .ref q_past, .int v_undos, .ref q_images, .ref q_kept, .long v_seed, .ref q_text, .int v_size, .int v_fault, .ref q_sights, .int v_sightMany, .ref q_book, .int v_bookMany, .int v_at, .int v_begin, .int v_sign, .int v_figures, .int v_value, .int v_wrong, .ref q_went, .ref q_free, .ref q_stands])), (q_town, .inl (cI, 27, .inl v_town)), (q_sights, .inl (cI, 12, .inl v_sights))])) (va_Qi (fun (r : Int32) (_ : Unit) => r = out) (fun _ t => va_P (dC, dI) vwCl [(q_this, .inr (12, [.ref q_town, .ref q_read, .ref q_now, .ref q_aside, .ref q_past, .int v_undos, .ref q_images, .ref q_kept, .long v_seed, .ref q_text, .int v_size, .int v_fault, .ref q_sights, .int v_sightMany, .ref q_book, .int v_bookMany, .int v_at, .int v_begin, .int v_sign, .int v_figures, .int v_value, .int v_wrong, .ref q_went, .ref q_free, .ref q_stands])), (q_town, .inl (cI, 27, .inl v_town)), (q_sights, .inl (cI, 12, .inl v_sights))] t.heap ∧ va_K (dC, dI) vwCl [(cI, .int), (cZ, .boolean)] t ∧ va_D (va_A [(q_this, .inr (12, [.ref q_town, .ref q_read, .ref q_now, .ref q_aside, .ref q_past, .int v_undos, .ref q_images, .ref q_kept, .long v_seed, .ref q_text, .int v_size, .int v_fault, .ref q_sights, .int v_sightMany, .ref q_book, .int v_bookMany, .int v_at, .int v_begin, .int v_sign, .int v_figures, .int v_value, .int v_wrong, .ref q_went, .ref q_free, .ref q_stands])), (q_town, .inl (cI, 27, .inl v_town)), (q_sights, .inl (cI, 12, .inl v_sights))] sz) [(q_this, .inr (12, [.ref q_town, .ref q_read, .ref q_now, .ref q_aside, .ref q_past, .int v_undos, .ref q_images, .ref q_kept, .long v_seed, .ref q_text, .int v_size, .int v_fault, .ref q_sights, .int v_sightMany, .ref q_book, .int v_bookMany, .int v_at, .int v_begin, .int v_sign, .int v_figures, .int v_value, .int v_wrong, .ref q_went, .ref q_free, .ref q_stands])), (q_town, .inl (cI, 27, .inl v_town)), (q_sights, .inl (cI, 12, .inl v_sights))]) (va_A [(q_this, .inr (12, [.ref q_town, .ref q_read, .ref q_now, .ref q_aside, .ref q_past, .int v_undos, .ref q_images, .ref q_kept, .long v_seed, .ref q_text, .int v_size, .int v_fault, .ref q_sights, .int v_sightMany, .ref q_book, .int v_bookMany, .int v_at, .int v_begin, .int v_sign, .int v_figures, .int v_value, .int v_wrong, .ref q_went, .ref q_free, .ref q_stands])), (q_town, .inl (cI, 27, .inl v_town)), (q_sights, .inl (cI, 12, .inl v_sights))] sz)) 0 0 (va_A [(q_this, .inr (12, [.ref q_town, .ref q_read, .ref q_now, .ref q_aside, .ref q_past, .int v_undos, .ref q_images, .ref q_kept, .long v_seed, .ref q_text, .int v_size, .int v_fault, .ref q_sights, .int v_sightMany, .ref q_book, .int v_bookMany, .int v_at, .int v_begin, .int v_sign, .int v_figures, .int v_value, .int v_wrong, .ref q_went, .ref q_free, .ref q_stands])), (q_town, .inl (cI, 27, .inl v_town)), (q_sights, .inl (cI, 12, .inl v_sights))] sz) := by
  refine Met.ofW (cc := cX12_lookAt) (maxL := 8) (ret := (some .int)) (by decide) rfl ?_
  intro p e s m args below meth c s₁ B hml hv
  obtain ⟨rfl, hsz, hP, hK, hD0⟩ := hv
  have hx := B.exec
  have hb := B.bytes
  have hr := B.returns
  have hts := atoms_spec (ws := wsX12_lookAt) B.pre
  have hown : s.vm.findClass RX12 = some m.cls := findClass_of_methodNamed B.named
  have hlocks := B.notSynchronized
  subst hsz
  have hD := hD0.self (sz := s.heap.size)
  generalize hAe : va_A [(q_this, .inr (12, [.ref q_town, .ref q_read, .ref q_now, .ref q_aside, .ref q_past, .int v_undos, .ref q_images, .ref q_kept, .long v_seed, .ref q_text, .int v_size, .int v_fault, .ref q_sights, .int v_sightMany, .ref q_book, .int v_bookMany, .int v_at, .int v_begin, .int v_sign, .int v_figures, .int v_value, .int v_wrong, .ref q_went, .ref q_free, .ref q_stands])), (q_town, .inl (cI, 27, .inl v_town)), (q_sights, .inl (cI, 12, .inl v_sights))] s.heap.size = A at hD ⊢
  have hA : ∀ q : Nat, s.heap.size ≤ q → A q := fun q h => by rw [← hAe]; exact Or.inr h
  have hS : va_S A s.heap s.heap [] := va_S.rf
  have hl := lv_entry ([.ref q_this]) (n := 8) (Nat.le_of_ble_eq_true rfl)
  rw [lg_entry_eq]
  generalize (lg_sl ([.ref q_this]) ++ List.replicate (8 - (lg_sl ([.ref q_this])).length) Slot.unset).toArray = ls at hl ⊢
  have hl : lv_has ls 8 [(0, .ref q_this)] := hl
  unfold fX12_lookAt at hrun
  have hk7 := hts (.fieldLink RX12 7 "LentDrainsModel" "town" "[I") (by decide +kernel)
  have hiX12 : ∀ w ∈ wsX120, w ∈ wsX12_lookAt := by decide +kernel
  refine oz_genQ (fun Q hQ => ?_)
  refine lv_aload_n hx hb dX12_lookAt_0 rfl (lv_at hl 0 rfl) ?_
  obtain ⟨y1, hc1, hrun⟩ := oz_bind hrun
  have hPc := hP.sub (ws' := [(q_this, .inr (12, [.ref q_town, .ref q_read, .ref q_now, .ref q_aside, .ref q_past, .int v_undos, .ref q_images, .ref q_kept, .long v_seed, .ref q_text, .int v_size, .int v_fault, .ref q_sights, .int v_sightMany, .ref q_book, .int v_bookMany, .int v_at, .int v_begin, .int v_sign, .int v_figures, .int v_value, .int v_wrong, .ref q_went, .ref q_free, .ref q_stands])), (q_town, .inl (cI, 27, .inl v_town)), (q_sights, .inl (cI, 12, .inl v_sights))]) [0, 1, 2] rfl
  have hDc := hD.sub (ws' := [(q_this, .inr (12, [.ref q_town, .ref q_read, .ref q_now, .ref q_aside, .ref q_past, .int v_undos, .ref q_images, .ref q_kept, .long v_seed, .ref q_text, .int v_size, .int v_fault, .ref q_sights, .int v_sightMany, .ref q_book, .int v_bookMany, .int v_at, .int v_begin, .int v_sign, .int v_figures, .int v_value, .int v_wrong, .ref q_went, .ref q_free, .ref q_stands])), (q_town, .inl (cI, 27, .inl v_town)), (q_sights, .inl (cI, 12, .inl v_sights))]) [0, 1, 2] (by decide) rfl
  have hFc := va_free (wc := [(q_this, .inr (12, [.ref q_town, .ref q_read, .ref q_now, .ref q_aside, .ref q_past, .int v_undos, .ref q_images, .ref q_kept, .long v_seed, .ref q_text, .int v_size, .int v_fault, .ref q_sights, .int v_sightMany, .ref q_book, .int v_bookMany, .int v_at, .int v_begin, .int v_sign, .int v_figures, .int v_value, .int v_wrong, .ref q_went, .ref q_free, .ref q_stands])), (q_town, .inl (cI, 27, .inl v_town)), (q_sights, .inl (cI, 12, .inl v_sights))]) hD hS hA [0, 1, 2] rfl
  refine va_calli (va_runV (As := []) (rest := []) ⟨hx, hb, hml, hown, hts⟩ (tX12_whence l dC dI cI cZ q_aside q_book q_free q_images q_kept q_now q_past q_read q_sights q_stands q_text q_this q_town q_went s.heap.size v_undos v_seed v_size v_fault v_bookMany v_at v_begin v_sign v_figures v_value v_wrong v_sightMany v_town v_sights y1 hc1) (cwV 0 hts gX12_lookAt_X12_whence rfl rfl rfl (by decide +kernel) ⟨Nat.le_of_ble_eq_true rfl, Nat.le_of_ble_eq_true rfl⟩) ⟨fun a U g mk q => by obtain ⟨q0, q1, qP, qK, qD⟩ := q; exact ⟨q0, q1, qP, va_K.moved (u := U) (U := U.calling g mk a) (Vm.Alike.refl U.vm) qK, qD⟩, va_recv hK hPc (ci := 12) (q0 := 0) rfl rfl, fun U hU hW => ⟨rfl, by rw [hU], by rw [hU]; exact hPc, va_K.moved hW.alike hK, hDc.weaken (fun _ _ _ _ => trivial)⟩⟩ rfl rfl hl.1 rfl (lv_room (Nat.le_of_ble_eq_true rfl)) dX12_lookAt_1 ⟨Nat.le_of_ble_eq_true rfl, Nat.le_of_ble_eq_true rfl⟩) hS (fun q _ h => hFc q h) hFc (fun r1 u9 t9 H1 locs ht9 hvm9 hw9 hB9 hz9 hkk9 hS => ?_)
  have hw9 : y1 = r1 := hw9.symm
  subst hw9
  obtain ⟨hP9, hK9, hD9⟩ := hB9
  rw [ht9] at hP9
  obtain ⟨hP, hD⟩ := va_join (wr := []) (w1 := [(q_this, .inr (12, [.ref q_town, .ref q_read, .ref q_now, .ref q_aside, .ref q_past, .int v_undos, .ref q_images, .ref q_kept, .long v_seed, .ref q_text, .int v_size, .int v_fault, .ref q_sights, .int v_sightMany, .ref q_book, .int v_bookMany, .int v_at, .int v_begin, .int v_sign, .int v_figures, .int v_value, .int v_wrong, .ref q_went, .ref q_free, .ref q_stands])), (q_town, .inl (cI, 27, .inl v_town)), (q_sights, .inl (cI, 12, .inl v_sights))]) hP hD [0, 1, 2] [] rfl rfl (by decide) (by decide) hkk9 hFc hP9 hD9
  generalize H1 = H at hP hS ⊢
  have hP : va_P (dC, dI) vwCl [(q_this, .inr (12, [.ref q_town, .ref q_read, .ref q_now, .ref q_aside, .ref q_past, .int v_undos, .ref q_images, .ref q_kept, .long v_seed, .ref q_text, .int v_size, .int v_fault, .ref q_sights, .int v_sightMany, .ref q_book, .int v_bookMany, .int v_at, .int v_begin, .int v_sign, .int v_figures, .int v_value, .int v_wrong, .ref q_went, .ref q_free, .ref q_stands])), (q_town, .inl (cI, 27, .inl v_town)), (q_sights, .inl (cI, 12, .inl v_sights))] H := hP
  have hD : va_D A [(q_this, .inr (12, [.ref q_town, .ref q_read, .ref q_now, .ref q_aside, .ref q_past, .int v_undos, .ref q_images, .ref q_kept, .long v_seed, .ref q_text, .int v_size, .int v_fault, .ref q_sights, .int v_sightMany, .ref q_book, .int v_bookMany, .int v_at, .int v_begin, .int v_sign, .int v_figures, .int v_value, .int v_wrong, .ref q_went, .ref q_free, .ref q_stands])), (q_town, .inl (cI, 27, .inl v_town)), (q_sights, .inl (cI, 12, .inl v_sights))] := hD
  refine lv_istore_n (lv' := [(1, .int y1), (0, .ref q_this)]) hx hb dX12_lookAt_4 rfl hl (by decide) rfl (fun ls hl => ?_)
  refine lv_iload_n hx hb dX12_lookAt_5 rfl (lv_at hl 0 rfl) ?_
  obtain ⟨y6, hc6, hrun⟩ := oz_bind hrun
  have hPc := hP.sub (ws' := []) [] rfl
  have hDc := hD.sub (ws' := []) [] (by decide) rfl
  have hFc := va_free (wc := []) hD hS hA [] rfl
  refine va_calli (va_runS (As := [.int y1]) (rest := []) ⟨hx, hb, hml, hown, hts⟩ (tX12_bits l dC dI cI cZ H.size y1 y6 hc6) (va_cwS 1 hts gX12_lookAt_X12_bits rfl rfl rfl (by decide +kernel) ⟨Nat.le_of_ble_eq_true rfl, Nat.le_of_ble_eq_true rfl⟩) ⟨fun a U g mk q => by obtain ⟨q0, q1, qP, qK, qD⟩ := q; exact ⟨q0, q1, qP, va_K.moved (u := U) (U := U.calling g mk a) (Vm.Alike.refl U.vm) qK, qD⟩, fun U hU hW => ⟨rfl, by rw [hU], by rw [hU]; exact hPc, va_K.moved hW.alike hK, hDc.weaken (fun _ _ _ _ => trivial)⟩⟩ rfl rfl hl.1 rfl (lv_room (Nat.le_of_ble_eq_true rfl)) dX12_lookAt_6 ⟨Nat.le_of_ble_eq_true rfl, Nat.le_of_ble_eq_true rfl⟩) hS (fun q _ h => hFc q h) hFc (fun r6 u9 t9 H1 locs ht9 hvm9 hw9 hB9 hz9 hkk9 hS => ?_)
  have hw9 : y6 = r6 := hw9.symm
  subst hw9
  obtain ⟨hP9, hK9, hD9⟩ := hB9
  rw [ht9] at hP9
  obtain ⟨hP, hD⟩ := va_join (wr := [(q_this, .inr (12, [.ref q_town, .ref q_read, .ref q_now, .ref q_aside, .ref q_past, .int v_undos, .ref q_images, .ref q_kept, .long v_seed, .ref q_text, .int v_size, .int v_fault, .ref q_sights, .int v_sightMany, .ref q_book, .int v_bookMany, .int v_at, .int v_begin, .int v_sign, .int v_figures, .int v_value, .int v_wrong, .ref q_went, .ref q_free, .ref q_stands])), (q_town, .inl (cI, 27, .inl v_town)), (q_sights, .inl (cI, 12, .inl v_sights))]) (w1 := []) hP hD [] [0, 1, 2] rfl rfl (by decide) (by decide) hkk9 hFc hP9 hD9
  generalize H1 = H at hP hS ⊢
  have hP : va_P (dC, dI) vwCl [(q_this, .inr (12, [.ref q_town, .ref q_read, .ref q_now, .ref q_aside, .ref q_past, .int v_undos, .ref q_images, .ref q_kept, .long v_seed, .ref q_text, .int v_size, .int v_fault, .ref q_sights, .int v_sightMany, .ref q_book, .int v_bookMany, .int v_at, .int v_begin, .int v_sign, .int v_figures, .int v_value, .int v_wrong, .ref q_went, .ref q_free, .ref q_stands])), (q_town, .inl (cI, 27, .inl v_town)), (q_sights, .inl (cI, 12, .inl v_sights))] H := hP
  have hD : va_D A [(q_this, .inr (12, [.ref q_town, .ref q_read, .ref q_now, .ref q_aside, .ref q_past, .int v_undos, .ref q_images, .ref q_kept, .long v_seed, .ref q_text, .int v_size, .int v_fault, .ref q_sights, .int v_sightMany, .ref q_book, .int v_bookMany, .int v_at, .int v_begin, .int v_sign, .int v_figures, .int v_value, .int v_wrong, .ref q_went, .ref q_free, .ref q_stands])), (q_town, .inl (cI, 27, .inl v_town)), (q_sights, .inl (cI, 12, .inl v_sights))] := hD
  refine lv_istore_n (lv' := [(2, .int y6), (1, .int y1), (0, .ref q_this)]) hx hb dX12_lookAt_9 rfl hl (by decide) rfl (fun ls hl => ?_)
  refine lv_iload_n hx hb dX12_lookAt_10 rfl (lv_at hl 0 rfl) ?_
  refine lv_istore_n (lv' := [(3, .int y6), (2, .int y6), (1, .int y1), (0, .ref q_this)]) hx hb dX12_lookAt_11 rfl hl (by decide) rfl (fun ls hl => ?_)
  refine lv_iconst (v := (-1)) hx hb dX12_lookAt_12 (by decide) ?_
  refine lv_istore (lv' := [(4, .int (-1)), (3, .int y6), (2, .int y6), (1, .int y1), (0, .ref q_this)]) hx hb dX12_lookAt_13 hl (by decide) rfl (fun ls hl => ?_)
  refine lv_iconst (v := 0) hx hb dX12_lookAt_15 (by decide) ?_
  refine lv_istore (lv' := [(5, .int 0), (4, .int (-1)), (3, .int y6), (2, .int y6), (1, .int y1), (0, .ref q_this)]) hx hb dX12_lookAt_16 hl (by decide) rfl (fun ls hl => ?_)
  obtain ⟨o18, hlp18, hrun⟩ := oz_bind hrun
  have hL18 : ∀ (n : Nat) (w18 : Int32 × Int32 × Int32) (o18 : Int32 × Int32 × Int32), oz_loop (fX12_lookAt_b18 v_town y1 y6) n w18 = some o18 → (∀ (H : Heap) (locs : List Loc) (ls : Array Slot), va_P (dC, dI) vwCl [(q_this, .inr (12, [.ref q_town, .ref q_read, .ref q_now, .ref q_aside, .ref q_past, .int v_undos, .ref q_images, .ref q_kept, .long v_seed, .ref q_text, .int v_size, .int v_fault, .ref q_sights, .int v_sightMany, .ref q_book, .int v_bookMany, .int v_at, .int v_begin, .int v_sign, .int v_figures, .int v_value, .int v_wrong, .ref q_went, .ref q_free, .ref q_stands])), (q_town, .inl (cI, 27, .inl v_town)), (q_sights, .inl (cI, 12, .inl v_sights))] H → va_D A [(q_this, .inr (12, [.ref q_town, .ref q_read, .ref q_now, .ref q_aside, .ref q_past, .int v_undos, .ref q_images, .ref q_kept, .long v_seed, .ref q_text, .int v_size, .int v_fault, .ref q_sights, .int v_sightMany, .ref q_book, .int v_bookMany, .int v_at, .int v_begin, .int v_sign, .int v_figures, .int v_value, .int v_wrong, .ref q_went, .ref q_free, .ref q_stands])), (q_town, .inl (cI, 27, .inl v_town)), (q_sights, .inl (cI, 12, .inl v_sights))] → va_S A s.heap H locs → lv_has ls 8 [(5, .int o18.1), (4, .int o18.2.1), (3, .int o18.2.2), (2, .int y6), (1, .int y1), (0, .ref q_this)] → W p l e (headSpec wsX12_lookAt rmX12_lookAt).room s m (([.ref q_this] : List Value).toArray) below meth c H locs 0 0 Q (F0 m 90 ls [])) → ∀ (H : Heap) (locs : List Loc) (ls : Array Slot), va_P (dC, dI) vwCl [(q_this, .inr (12, [.ref q_town, .ref q_read, .ref q_now, .ref q_aside, .ref q_past, .int v_undos, .ref q_images, .ref q_kept, .long v_seed, .ref q_text, .int v_size, .int v_fault, .ref q_sights, .int v_sightMany, .ref q_book, .int v_bookMany, .int v_at, .int v_begin, .int v_sign, .int v_figures, .int v_value, .int v_wrong, .ref q_went, .ref q_free, .ref q_stands])), (q_town, .inl (cI, 27, .inl v_town)), (q_sights, .inl (cI, 12, .inl v_sights))] H → va_D A [(q_this, .inr (12, [.ref q_town, .ref q_read, .ref q_now, .ref q_aside, .ref q_past, .int v_undos, .ref q_images, .ref q_kept, .long v_seed, .ref q_text, .int v_size, .int v_fault, .ref q_sights, .int v_sightMany, .ref q_book, .int v_bookMany, .int v_at, .int v_begin, .int v_sign, .int v_figures, .int v_value, .int v_wrong, .ref q_went, .ref q_free, .ref q_stands])), (q_town, .inl (cI, 27, .inl v_town)), (q_sights, .inl (cI, 12, .inl v_sights))] → va_S A s.heap H locs → lv_has ls 8 [(5, .int w18.1), (4, .int w18.2.1), (3, .int w18.2.2), (2, .int y6), (1, .int y1), (0, .ref q_this)] → W p l e (headSpec wsX12_lookAt rmX12_lookAt).room s m (([.ref q_this] : List Value).toArray) below meth c H locs 0 0 Q (F0 m 18 ls []) := by
    intro n
    induction n with
    | zero => intro w18 o18 h9; exact (oz_zero h9).elim
    | succ n ih =>
      intro w18 o18 h9 hexit H locs ls hP hD hS hl
      obtain ⟨r9, hrun, hnext⟩ := oz_step h9
      unfold fX12_lookAt_b18 at hrun
      refine lv_iload hx hb dX12_lookAt_18 (lv_at hl 0 rfl) ?_
      refine lv_aload_n hx hb dX12_lookAt_20 rfl (lv_at hl 5 rfl) ?_
      refine va_get (D := (dC, dI)) (ci := 12) (v := .ref q_town) (C := RX12) (T := TX12) (N := 25) hx hb hts hiX12 hown hK hP 0 rfl rfl 0 (by decide) hk7 (fun _ h9 => h9) rfl dX12_lookAt_21 ?_
      refine lv_iconst (v := 2) hx hb dX12_lookAt_24 (by decide) ?_
      refine va_iald hx hb hK hP 1 0 rfl rfl (show ¬ ((2 : Int32) < 0 ∨ 27 ≤ (2 : Int32).toNatClampNeg) by decide) dX12_lookAt_25 ?_
      refine lv_icmp_ge (tgt := 90) hx hb dX12_lookAt_26 (by decide) (fun c1 => ?_) (fun c1 => ?_)
      · have hrun := oz_t hrun c1
        have hr9 := Option.some.inj hrun
        subst hr9
        have ho9 : (w18.1, w18.2.1, w18.2.2) = o18 := hnext
        subst ho9
        exact hexit _ _ _ (hP.sub [0, 1, 2] rfl) (hD.sub [0, 1, 2] (by decide) rfl) hS (lv_sub hl [0, 1, 2, 3, 4, 5] rfl)
      · have hrun := oz_f hrun c1
        refine lv_iload_n hx hb dX12_lookAt_29 rfl (lv_at hl 4 rfl) ?_
        refine lv_aload_n hx hb dX12_lookAt_30 rfl (lv_at hl 5 rfl) ?_
        refine lv_iload hx hb dX12_lookAt_31 (lv_at hl 0 rfl) ?_
        obtain ⟨y33, hc33, hrun⟩ := oz_bind hrun
        have hPc := hP.sub (ws' := [(q_this, .inr (12, [.ref q_town, .ref q_read, .ref q_now, .ref q_aside, .ref q_past, .int v_undos, .ref q_images, .ref q_kept, .long v_seed, .ref q_text, .int v_size, .int v_fault, .ref q_sights, .int v_sightMany, .ref q_book, .int v_bookMany, .int v_at, .int v_begin, .int v_sign, .int v_figures, .int v_value, .int v_wrong, .ref q_went, .ref q_free, .ref q_stands])), (q_town, .inl (cI, 27, .inl v_town))]) [0, 1] rfl
        have hDc := hD.sub (ws' := [(q_this, .inr (12, [.ref q_town, .ref q_read, .ref q_now, .ref q_aside, .ref q_past, .int v_undos, .ref q_images, .ref q_kept, .long v_seed, .ref q_text, .int v_size, .int v_fault, .ref q_sights, .int v_sightMany, .ref q_book, .int v_bookMany, .int v_at, .int v_begin, .int v_sign, .int v_figures, .int v_value, .int v_wrong, .ref q_went, .ref q_free, .ref q_stands])), (q_town, .inl (cI, 27, .inl v_town))]) [0, 1] (by decide) rfl
        have hFc := va_free (wc := [(q_this, .inr (12, [.ref q_town, .ref q_read, .ref q_now, .ref q_aside, .ref q_past, .int v_undos, .ref q_images, .ref q_kept, .long v_seed, .ref q_text, .int v_size, .int v_fault, .ref q_sights, .int v_sightMany, .ref q_book, .int v_bookMany, .int v_at, .int v_begin, .int v_sign, .int v_figures, .int v_value, .int v_wrong, .ref q_went, .ref q_free, .ref q_stands])), (q_town, .inl (cI, 27, .inl v_town))]) hD hS hA [0, 1] rfl
        refine va_calli (va_runV (As := [.int w18.1]) (rest := [.int y1]) ⟨hx, hb, hml, hown, hts⟩ (tX12_above l dC dI cI cZ q_aside q_book q_free q_images q_kept q_now q_past q_read q_sights q_stands q_text q_this q_town q_went H.size v_undos v_seed v_size v_fault v_sightMany v_bookMany v_at v_begin v_sign v_figures v_value v_wrong v_town w18.1 y33 hc33) (cwV 1 hts gX12_lookAt_X12_above rfl rfl rfl (by decide +kernel) ⟨Nat.le_of_ble_eq_true rfl, Nat.le_of_ble_eq_true rfl⟩) ⟨fun a U g mk q => by obtain ⟨q0, q1, qP, qK, qD⟩ := q; exact ⟨q0, q1, qP, va_K.moved (u := U) (U := U.calling g mk a) (Vm.Alike.refl U.vm) qK, qD⟩, va_recv hK hPc (ci := 12) (q0 := 0) rfl rfl, fun U hU hW => ⟨rfl, by rw [hU], by rw [hU]; exact hPc, va_K.moved hW.alike hK, hDc.weaken (fun _ _ _ _ => trivial)⟩⟩ rfl rfl hl.1 rfl (lv_room (Nat.le_of_ble_eq_true rfl)) dX12_lookAt_33 ⟨Nat.le_of_ble_eq_true rfl, Nat.le_of_ble_eq_true rfl⟩) hS (fun q _ h => hFc q h) hFc (fun r33 u9 t9 H1 locs ht9 hvm9 hw9 hB9 hz9 hkk9 hS => ?_)
        have hw9 : y33 = r33 := hw9.symm
        subst hw9
        obtain ⟨hP9, hK9, hD9⟩ := hB9
        rw [ht9] at hP9
        obtain ⟨hP, hD⟩ := va_join (wr := [(q_sights, .inl (cI, 12, .inl v_sights))]) (w1 := [(q_this, .inr (12, [.ref q_town, .ref q_read, .ref q_now, .ref q_aside, .ref q_past, .int v_undos, .ref q_images, .ref q_kept, .long v_seed, .ref q_text, .int v_size, .int v_fault, .ref q_sights, .int v_sightMany, .ref q_book, .int v_bookMany, .int v_at, .int v_begin, .int v_sign, .int v_figures, .int v_value, .int v_wrong, .ref q_went, .ref q_free, .ref q_stands])), (q_town, .inl (cI, 27, .inl v_town))]) hP hD [0, 1] [2] rfl rfl (by decide) (by decide) hkk9 hFc hP9 hD9
        generalize H1 = H at hP hS ⊢
        have hP : va_P (dC, dI) vwCl [(q_sights, .inl (cI, 12, .inl v_sights)), (q_this, .inr (12, [.ref q_town, .ref q_read, .ref q_now, .ref q_aside, .ref q_past, .int v_undos, .ref q_images, .ref q_kept, .long v_seed, .ref q_text, .int v_size, .int v_fault, .ref q_sights, .int v_sightMany, .ref q_book, .int v_bookMany, .int v_at, .int v_begin, .int v_sign, .int v_figures, .int v_value, .int v_wrong, .ref q_went, .ref q_free, .ref q_stands])), (q_town, .inl (cI, 27, .inl v_town))] H := hP
        have hD : va_D A [(q_sights, .inl (cI, 12, .inl v_sights)), (q_this, .inr (12, [.ref q_town, .ref q_read, .ref q_now, .ref q_aside, .ref q_past, .int v_undos, .ref q_images, .ref q_kept, .long v_seed, .ref q_text, .int v_size, .int v_fault, .ref q_sights, .int v_sightMany, .ref q_book, .int v_bookMany, .int v_at, .int v_begin, .int v_sign, .int v_figures, .int v_value, .int v_wrong, .ref q_went, .ref q_free, .ref q_stands])), (q_town, .inl (cI, 27, .inl v_town))] := hD
        refine lv_iand hx hb dX12_lookAt_36 ?_
        obtain ⟨y37, hc37, hrun⟩ := oz_bind hrun
        have hPc := hP.sub (ws' := []) [] rfl
        have hDc := hD.sub (ws' := []) [] (by decide) rfl
        have hFc := va_free (wc := []) hD hS hA [] rfl
        refine va_calli (va_runS (As := [.int (y1 &&& y33)]) (rest := []) ⟨hx, hb, hml, hown, hts⟩ (tX12_bits l dC dI cI cZ H.size (y1 &&& y33) y37 hc37) (va_cwS 1 hts gX12_lookAt_X12_bits rfl rfl rfl (by decide +kernel) ⟨Nat.le_of_ble_eq_true rfl, Nat.le_of_ble_eq_true rfl⟩) ⟨fun a U g mk q => by obtain ⟨q0, q1, qP, qK, qD⟩ := q; exact ⟨q0, q1, qP, va_K.moved (u := U) (U := U.calling g mk a) (Vm.Alike.refl U.vm) qK, qD⟩, fun U hU hW => ⟨rfl, by rw [hU], by rw [hU]; exact hPc, va_K.moved hW.alike hK, hDc.weaken (fun _ _ _ _ => trivial)⟩⟩ rfl rfl hl.1 rfl (lv_room (Nat.le_of_ble_eq_true rfl)) dX12_lookAt_37 ⟨Nat.le_of_ble_eq_true rfl, Nat.le_of_ble_eq_true rfl⟩) hS (fun q _ h => hFc q h) hFc (fun r37 u9 t9 H1 locs ht9 hvm9 hw9 hB9 hz9 hkk9 hS => ?_)
        have hw9 : y37 = r37 := hw9.symm
        subst hw9
        obtain ⟨hP9, hK9, hD9⟩ := hB9
        rw [ht9] at hP9
        obtain ⟨hP, hD⟩ := va_join (wr := [(q_sights, .inl (cI, 12, .inl v_sights)), (q_this, .inr (12, [.ref q_town, .ref q_read, .ref q_now, .ref q_aside, .ref q_past, .int v_undos, .ref q_images, .ref q_kept, .long v_seed, .ref q_text, .int v_size, .int v_fault, .ref q_sights, .int v_sightMany, .ref q_book, .int v_bookMany, .int v_at, .int v_begin, .int v_sign, .int v_figures, .int v_value, .int v_wrong, .ref q_went, .ref q_free, .ref q_stands])), (q_town, .inl (cI, 27, .inl v_town))]) (w1 := []) hP hD [] [0, 1, 2] rfl rfl (by decide) (by decide) hkk9 hFc hP9 hD9
        generalize H1 = H at hP hS ⊢
        have hP : va_P (dC, dI) vwCl [(q_sights, .inl (cI, 12, .inl v_sights)), (q_this, .inr (12, [.ref q_town, .ref q_read, .ref q_now, .ref q_aside, .ref q_past, .int v_undos, .ref q_images, .ref q_kept, .long v_seed, .ref q_text, .int v_size, .int v_fault, .ref q_sights, .int v_sightMany, .ref q_book, .int v_bookMany, .int v_at, .int v_begin, .int v_sign, .int v_figures, .int v_value, .int v_wrong, .ref q_went, .ref q_free, .ref q_stands])), (q_town, .inl (cI, 27, .inl v_town))] H := hP
        have hD : va_D A [(q_sights, .inl (cI, 12, .inl v_sights)), (q_this, .inr (12, [.ref q_town, .ref q_read, .ref q_now, .ref q_aside, .ref q_past, .int v_undos, .ref q_images, .ref q_kept, .long v_seed, .ref q_text, .int v_size, .int v_fault, .ref q_sights, .int v_sightMany, .ref q_book, .int v_bookMany, .int v_at, .int v_begin, .int v_sign, .int v_figures, .int v_value, .int v_wrong, .ref q_went, .ref q_free, .ref q_stands])), (q_town, .inl (cI, 27, .inl v_town))] := hD
        refine lv_istore (lv' := [(6, .int y37), (5, .int w18.1), (4, .int w18.2.1), (3, .int w18.2.2), (2, .int y6), (1, .int y1), (0, .ref q_this)]) hx hb dX12_lookAt_40 hl (by decide) rfl (fun ls hl => ?_)
        refine lv_iload hx hb dX12_lookAt_42 (lv_at hl 0 rfl) ?_
        refine lv_iload_n hx hb dX12_lookAt_44 rfl (lv_at hl 4 rfl) ?_
        refine lv_iload hx hb dX12_lookAt_45 (lv_at hl 0 rfl) ?_
        refine lv_isub hx hb dX12_lookAt_47 ?_
        refine lv_icmp_le (tgt := 56) hx hb dX12_lookAt_48 (by decide) (fun c2 => ?_) (fun c2 => ?_)
        · have hrun := oz_t hrun c2
          refine lv_iload_n hx hb dX12_lookAt_56 rfl (lv_at hl 4 rfl) ?_
          refine lv_iload hx hb dX12_lookAt_57 (lv_at hl 0 rfl) ?_
          refine lv_isub hx hb dX12_lookAt_59 ?_
          refine lv_istore (lv' := [(7, .int (y6 - y37)), (6, .int y37), (5, .int w18.1), (4, .int w18.2.1), (3, .int w18.2.2), (2, .int y6), (1, .int y1), (0, .ref q_this)]) hx hb dX12_lookAt_60 hl (by decide) rfl (fun ls hl => ?_)
          refine lv_iload hx hb dX12_lookAt_62 (lv_at hl 0 rfl) ?_
          refine lv_iload_n hx hb dX12_lookAt_64 rfl (lv_at hl 4 rfl) ?_
          refine lv_icmp_ge (tgt := 73) hx hb dX12_lookAt_65 (by decide) (fun c3 => ?_) (fun c3 => ?_)
          · have hrun := oz_t hrun c3
            refine lv_iload hx hb dX12_lookAt_73 (lv_at hl 3 rfl) ?_
            refine lv_istore (lv' := [(4, .int w18.2.1), (7, .int (y6 - y37)), (6, .int y37), (5, .int w18.1), (3, .int w18.2.2), (2, .int y6), (1, .int y1), (0, .ref q_this)]) hx hb dX12_lookAt_75 hl (by decide) rfl (fun ls hl => ?_)
            refine lv_iload hx hb dX12_lookAt_77 (lv_at hl 1 rfl) ?_
            refine lv_iload_n hx hb dX12_lookAt_79 rfl (lv_at hl 4 rfl) ?_
            obtain ⟨y80, hc80, hrun⟩ := oz_bind hrun
            have hPc := hP.sub (ws' := []) [] rfl
            have hDc := hD.sub (ws' := []) [] (by decide) rfl
            have hFc := va_free (wc := []) hD hS hA [] rfl
            refine va_calli (va_runS (As := [.int (y6 - y37), .int w18.2.2]) (rest := []) ⟨hx, hb, hml, hown, hts⟩ (tX12_lesser l dC dI cI cZ H.size (y6 - y37) w18.2.2 y80 hc80) (va_cwS 2 hts gX12_lookAt_X12_lesser rfl rfl rfl (by decide +kernel) ⟨Nat.le_of_ble_eq_true rfl, Nat.le_of_ble_eq_true rfl⟩) ⟨fun a U g mk q => by obtain ⟨q0, q1, qP, qK, qD⟩ := q; exact ⟨q0, q1, qP, va_K.moved (u := U) (U := U.calling g mk a) (Vm.Alike.refl U.vm) qK, qD⟩, fun U hU hW => ⟨rfl, by rw [hU], by rw [hU]; exact hPc, va_K.moved hW.alike hK, hDc.weaken (fun _ _ _ _ => trivial)⟩⟩ rfl rfl hl.1 rfl (lv_room (Nat.le_of_ble_eq_true rfl)) dX12_lookAt_80 ⟨Nat.le_of_ble_eq_true rfl, Nat.le_of_ble_eq_true rfl⟩) hS (fun q _ h => hFc q h) hFc (fun r80 u9 t9 H1 locs ht9 hvm9 hw9 hB9 hz9 hkk9 hS => ?_)
            have hw9 : y80 = r80 := hw9.symm
            subst hw9
            obtain ⟨hP9, hK9, hD9⟩ := hB9
            rw [ht9] at hP9
            obtain ⟨hP, hD⟩ := va_join (wr := [(q_sights, .inl (cI, 12, .inl v_sights)), (q_this, .inr (12, [.ref q_town, .ref q_read, .ref q_now, .ref q_aside, .ref q_past, .int v_undos, .ref q_images, .ref q_kept, .long v_seed, .ref q_text, .int v_size, .int v_fault, .ref q_sights, .int v_sightMany, .ref q_book, .int v_bookMany, .int v_at, .int v_begin, .int v_sign, .int v_figures, .int v_value, .int v_wrong, .ref q_went, .ref q_free, .ref q_stands])), (q_town, .inl (cI, 27, .inl v_town))]) (w1 := []) hP hD [] [0, 1, 2] rfl rfl (by decide) (by decide) hkk9 hFc hP9 hD9
            generalize H1 = H at hP hS ⊢
            have hP : va_P (dC, dI) vwCl [(q_sights, .inl (cI, 12, .inl v_sights)), (q_this, .inr (12, [.ref q_town, .ref q_read, .ref q_now, .ref q_aside, .ref q_past, .int v_undos, .ref q_images, .ref q_kept, .long v_seed, .ref q_text, .int v_size, .int v_fault, .ref q_sights, .int v_sightMany, .ref q_book, .int v_bookMany, .int v_at, .int v_begin, .int v_sign, .int v_figures, .int v_value, .int v_wrong, .ref q_went, .ref q_free, .ref q_stands])), (q_town, .inl (cI, 27, .inl v_town))] H := hP
            have hD : va_D A [(q_sights, .inl (cI, 12, .inl v_sights)), (q_this, .inr (12, [.ref q_town, .ref q_read, .ref q_now, .ref q_aside, .ref q_past, .int v_undos, .ref q_images, .ref q_kept, .long v_seed, .ref q_text, .int v_size, .int v_fault, .ref q_sights, .int v_sightMany, .ref q_book, .int v_bookMany, .int v_at, .int v_begin, .int v_sign, .int v_figures, .int v_value, .int v_wrong, .ref q_went, .ref q_free, .ref q_stands])), (q_town, .inl (cI, 27, .inl v_town))] := hD
            refine lv_istore_n (lv' := [(3, .int y80), (4, .int w18.2.1), (7, .int (y6 - y37)), (6, .int y37), (5, .int w18.1), (2, .int y6), (1, .int y1), (0, .ref q_this)]) hx hb dX12_lookAt_83 rfl hl (by decide) rfl (fun ls hl => ?_)
            refine lv_iinc (v := (w18.1 + 1)) (lv' := [(5, .int (w18.1 + 1)), (3, .int y80), (4, .int w18.2.1), (7, .int (y6 - y37)), (6, .int y37), (2, .int y6), (1, .int y1), (0, .ref q_this)]) hx hb dX12_lookAt_84 hl (k := 4) rfl rfl (by decide) rfl (fun ls hl => ?_)
            refine lv_goto (tgt := 18) hx hb dX12_lookAt_87 (by decide) ?_
            have hr9 := Option.some.inj hrun
            subst hr9
            exact ih ((w18.1 + 1), w18.2.1, y80) _ hnext hexit _ _ _ (hP.sub [1, 2, 0] rfl) (hD.sub [1, 2, 0] (by decide) rfl) hS (lv_sub hl [0, 2, 1, 5, 6, 7] rfl)
          · have hrun := oz_f hrun c3
            refine lv_iload hx hb dX12_lookAt_68 (lv_at hl 2 rfl) ?_
            refine lv_goto (tgt := 75) hx hb dX12_lookAt_70 (by decide) ?_
            refine lv_istore (lv' := [(4, .int w18.1), (7, .int (y6 - y37)), (6, .int y37), (5, .int w18.1), (3, .int w18.2.2), (2, .int y6), (1, .int y1), (0, .ref q_this)]) hx hb dX12_lookAt_75 hl (by decide) rfl (fun ls hl => ?_)
            refine lv_iload hx hb dX12_lookAt_77 (lv_at hl 1 rfl) ?_
            refine lv_iload_n hx hb dX12_lookAt_79 rfl (lv_at hl 4 rfl) ?_
            obtain ⟨y80, hc80, hrun⟩ := oz_bind hrun
            have hPc := hP.sub (ws' := []) [] rfl
            have hDc := hD.sub (ws' := []) [] (by decide) rfl
            have hFc := va_free (wc := []) hD hS hA [] rfl
            refine va_calli (va_runS (As := [.int (y6 - y37), .int w18.2.2]) (rest := []) ⟨hx, hb, hml, hown, hts⟩ (tX12_lesser l dC dI cI cZ H.size (y6 - y37) w18.2.2 y80 hc80) (va_cwS 2 hts gX12_lookAt_X12_lesser rfl rfl rfl (by decide +kernel) ⟨Nat.le_of_ble_eq_true rfl, Nat.le_of_ble_eq_true rfl⟩) ⟨fun a U g mk q => by obtain ⟨q0, q1, qP, qK, qD⟩ := q; exact ⟨q0, q1, qP, va_K.moved (u := U) (U := U.calling g mk a) (Vm.Alike.refl U.vm) qK, qD⟩, fun U hU hW => ⟨rfl, by rw [hU], by rw [hU]; exact hPc, va_K.moved hW.alike hK, hDc.weaken (fun _ _ _ _ => trivial)⟩⟩ rfl rfl hl.1 rfl (lv_room (Nat.le_of_ble_eq_true rfl)) dX12_lookAt_80 ⟨Nat.le_of_ble_eq_true rfl, Nat.le_of_ble_eq_true rfl⟩) hS (fun q _ h => hFc q h) hFc (fun r80 u9 t9 H1 locs ht9 hvm9 hw9 hB9 hz9 hkk9 hS => ?_)
            have hw9 : y80 = r80 := hw9.symm
            subst hw9
            obtain ⟨hP9, hK9, hD9⟩ := hB9
            rw [ht9] at hP9
            obtain ⟨hP, hD⟩ := va_join (wr := [(q_sights, .inl (cI, 12, .inl v_sights)), (q_this, .inr (12, [.ref q_town, .ref q_read, .ref q_now, .ref q_aside, .ref q_past, .int v_undos, .ref q_images, .ref q_kept, .long v_seed, .ref q_text, .int v_size, .int v_fault, .ref q_sights, .int v_sightMany, .ref q_book, .int v_bookMany, .int v_at, .int v_begin, .int v_sign, .int v_figures, .int v_value, .int v_wrong, .ref q_went, .ref q_free, .ref q_stands])), (q_town, .inl (cI, 27, .inl v_town))]) (w1 := []) hP hD [] [0, 1, 2] rfl rfl (by decide) (by decide) hkk9 hFc hP9 hD9
            generalize H1 = H at hP hS ⊢
            have hP : va_P (dC, dI) vwCl [(q_sights, .inl (cI, 12, .inl v_sights)), (q_this, .inr (12, [.ref q_town, .ref q_read, .ref q_now, .ref q_aside, .ref q_past, .int v_undos, .ref q_images, .ref q_kept, .long v_seed, .ref q_text, .int v_size, .int v_fault, .ref q_sights, .int v_sightMany, .ref q_book, .int v_bookMany, .int v_at, .int v_begin, .int v_sign, .int v_figures, .int v_value, .int v_wrong, .ref q_went, .ref q_free, .ref q_stands])), (q_town, .inl (cI, 27, .inl v_town))] H := hP
            have hD : va_D A [(q_sights, .inl (cI, 12, .inl v_sights)), (q_this, .inr (12, [.ref q_town, .ref q_read, .ref q_now, .ref q_aside, .ref q_past, .int v_undos, .ref q_images, .ref q_kept, .long v_seed, .ref q_text, .int v_size, .int v_fault, .ref q_sights, .int v_sightMany, .ref q_book, .int v_bookMany, .int v_at, .int v_begin, .int v_sign, .int v_figures, .int v_value, .int v_wrong, .ref q_went, .ref q_free, .ref q_stands])), (q_town, .inl (cI, 27, .inl v_town))] := hD
            refine lv_istore_n (lv' := [(3, .int y80), (4, .int w18.1), (7, .int (y6 - y37)), (6, .int y37), (5, .int w18.1), (2, .int y6), (1, .int y1), (0, .ref q_this)]) hx hb dX12_lookAt_83 rfl hl (by decide) rfl (fun ls hl => ?_)
            refine lv_iinc (v := (w18.1 + 1)) (lv' := [(5, .int (w18.1 + 1)), (3, .int y80), (4, .int w18.1), (7, .int (y6 - y37)), (6, .int y37), (2, .int y6), (1, .int y1), (0, .ref q_this)]) hx hb dX12_lookAt_84 hl (k := 4) rfl rfl (by decide) rfl (fun ls hl => ?_)
            refine lv_goto (tgt := 18) hx hb dX12_lookAt_87 (by decide) ?_
            have hr9 := Option.some.inj hrun
            subst hr9
            exact ih ((w18.1 + 1), w18.1, y80) _ hnext hexit _ _ _ (hP.sub [1, 2, 0] rfl) (hD.sub [1, 2, 0] (by decide) rfl) hS (lv_sub hl [0, 2, 1, 5, 6, 7] rfl)
        · have hrun := oz_f hrun c2
          refine lv_iload hx hb dX12_lookAt_51 (lv_at hl 0 rfl) ?_
          refine lv_goto (tgt := 60) hx hb dX12_lookAt_53 (by decide) ?_
          refine lv_istore (lv' := [(7, .int y37), (6, .int y37), (5, .int w18.1), (4, .int w18.2.1), (3, .int w18.2.2), (2, .int y6), (1, .int y1), (0, .ref q_this)]) hx hb dX12_lookAt_60 hl (by decide) rfl (fun ls hl => ?_)
          refine lv_iload hx hb dX12_lookAt_62 (lv_at hl 0 rfl) ?_
          refine lv_iload_n hx hb dX12_lookAt_64 rfl (lv_at hl 4 rfl) ?_
          refine lv_icmp_ge (tgt := 73) hx hb dX12_lookAt_65 (by decide) (fun c4 => ?_) (fun c4 => ?_)
          · have hrun := oz_t hrun c4
            refine lv_iload hx hb dX12_lookAt_73 (lv_at hl 3 rfl) ?_
            refine lv_istore (lv' := [(4, .int w18.2.1), (7, .int y37), (6, .int y37), (5, .int w18.1), (3, .int w18.2.2), (2, .int y6), (1, .int y1), (0, .ref q_this)]) hx hb dX12_lookAt_75 hl (by decide) rfl (fun ls hl => ?_)
            refine lv_iload hx hb dX12_lookAt_77 (lv_at hl 1 rfl) ?_
            refine lv_iload_n hx hb dX12_lookAt_79 rfl (lv_at hl 4 rfl) ?_
            obtain ⟨y80, hc80, hrun⟩ := oz_bind hrun
            have hPc := hP.sub (ws' := []) [] rfl
            have hDc := hD.sub (ws' := []) [] (by decide) rfl
            have hFc := va_free (wc := []) hD hS hA [] rfl
            refine va_calli (va_runS (As := [.int y37, .int w18.2.2]) (rest := []) ⟨hx, hb, hml, hown, hts⟩ (tX12_lesser l dC dI cI cZ H.size y37 w18.2.2 y80 hc80) (va_cwS 2 hts gX12_lookAt_X12_lesser rfl rfl rfl (by decide +kernel) ⟨Nat.le_of_ble_eq_true rfl, Nat.le_of_ble_eq_true rfl⟩) ⟨fun a U g mk q => by obtain ⟨q0, q1, qP, qK, qD⟩ := q; exact ⟨q0, q1, qP, va_K.moved (u := U) (U := U.calling g mk a) (Vm.Alike.refl U.vm) qK, qD⟩, fun U hU hW => ⟨rfl, by rw [hU], by rw [hU]; exact hPc, va_K.moved hW.alike hK, hDc.weaken (fun _ _ _ _ => trivial)⟩⟩ rfl rfl hl.1 rfl (lv_room (Nat.le_of_ble_eq_true rfl)) dX12_lookAt_80 ⟨Nat.le_of_ble_eq_true rfl, Nat.le_of_ble_eq_true rfl⟩) hS (fun q _ h => hFc q h) hFc (fun r80 u9 t9 H1 locs ht9 hvm9 hw9 hB9 hz9 hkk9 hS => ?_)
            have hw9 : y80 = r80 := hw9.symm
            subst hw9
            obtain ⟨hP9, hK9, hD9⟩ := hB9
            rw [ht9] at hP9
            obtain ⟨hP, hD⟩ := va_join (wr := [(q_sights, .inl (cI, 12, .inl v_sights)), (q_this, .inr (12, [.ref q_town, .ref q_read, .ref q_now, .ref q_aside, .ref q_past, .int v_undos, .ref q_images, .ref q_kept, .long v_seed, .ref q_text, .int v_size, .int v_fault, .ref q_sights, .int v_sightMany, .ref q_book, .int v_bookMany, .int v_at, .int v_begin, .int v_sign, .int v_figures, .int v_value, .int v_wrong, .ref q_went, .ref q_free, .ref q_stands])), (q_town, .inl (cI, 27, .inl v_town))]) (w1 := []) hP hD [] [0, 1, 2] rfl rfl (by decide) (by decide) hkk9 hFc hP9 hD9
            generalize H1 = H at hP hS ⊢
            have hP : va_P (dC, dI) vwCl [(q_sights, .inl (cI, 12, .inl v_sights)), (q_this, .inr (12, [.ref q_town, .ref q_read, .ref q_now, .ref q_aside, .ref q_past, .int v_undos, .ref q_images, .ref q_kept, .long v_seed, .ref q_text, .int v_size, .int v_fault, .ref q_sights, .int v_sightMany, .ref q_book, .int v_bookMany, .int v_at, .int v_begin, .int v_sign, .int v_figures, .int v_value, .int v_wrong, .ref q_went, .ref q_free, .ref q_stands])), (q_town, .inl (cI, 27, .inl v_town))] H := hP
            have hD : va_D A [(q_sights, .inl (cI, 12, .inl v_sights)), (q_this, .inr (12, [.ref q_town, .ref q_read, .ref q_now, .ref q_aside, .ref q_past, .int v_undos, .ref q_images, .ref q_kept, .long v_seed, .ref q_text, .int v_size, .int v_fault, .ref q_sights, .int v_sightMany, .ref q_book, .int v_bookMany, .int v_at, .int v_begin, .int v_sign, .int v_figures, .int v_value, .int v_wrong, .ref q_went, .ref q_free, .ref q_stands])), (q_town, .inl (cI, 27, .inl v_town))] := hD
            refine lv_istore_n (lv' := [(3, .int y80), (4, .int w18.2.1), (7, .int y37), (6, .int y37), (5, .int w18.1), (2, .int y6), (1, .int y1), (0, .ref q_this)]) hx hb dX12_lookAt_83 rfl hl (by decide) rfl (fun ls hl => ?_)
            refine lv_iinc (v := (w18.1 + 1)) (lv' := [(5, .int (w18.1 + 1)), (3, .int y80), (4, .int w18.2.1), (7, .int y37), (6, .int y37), (2, .int y6), (1, .int y1), (0, .ref q_this)]) hx hb dX12_lookAt_84 hl (k := 4) rfl rfl (by decide) rfl (fun ls hl => ?_)
            refine lv_goto (tgt := 18) hx hb dX12_lookAt_87 (by decide) ?_
            have hr9 := Option.some.inj hrun
            subst hr9
            exact ih ((w18.1 + 1), w18.2.1, y80) _ hnext hexit _ _ _ (hP.sub [1, 2, 0] rfl) (hD.sub [1, 2, 0] (by decide) rfl) hS (lv_sub hl [0, 2, 1, 5, 6, 7] rfl)
          · have hrun := oz_f hrun c4
            refine lv_iload hx hb dX12_lookAt_68 (lv_at hl 2 rfl) ?_
            refine lv_goto (tgt := 75) hx hb dX12_lookAt_70 (by decide) ?_
            refine lv_istore (lv' := [(4, .int w18.1), (7, .int y37), (6, .int y37), (5, .int w18.1), (3, .int w18.2.2), (2, .int y6), (1, .int y1), (0, .ref q_this)]) hx hb dX12_lookAt_75 hl (by decide) rfl (fun ls hl => ?_)
            refine lv_iload hx hb dX12_lookAt_77 (lv_at hl 1 rfl) ?_
            refine lv_iload_n hx hb dX12_lookAt_79 rfl (lv_at hl 4 rfl) ?_
            obtain ⟨y80, hc80, hrun⟩ := oz_bind hrun
            have hPc := hP.sub (ws' := []) [] rfl
            have hDc := hD.sub (ws' := []) [] (by decide) rfl
            have hFc := va_free (wc := []) hD hS hA [] rfl
            refine va_calli (va_runS (As := [.int y37, .int w18.2.2]) (rest := []) ⟨hx, hb, hml, hown, hts⟩ (tX12_lesser l dC dI cI cZ H.size y37 w18.2.2 y80 hc80) (va_cwS 2 hts gX12_lookAt_X12_lesser rfl rfl rfl (by decide +kernel) ⟨Nat.le_of_ble_eq_true rfl, Nat.le_of_ble_eq_true rfl⟩) ⟨fun a U g mk q => by obtain ⟨q0, q1, qP, qK, qD⟩ := q; exact ⟨q0, q1, qP, va_K.moved (u := U) (U := U.calling g mk a) (Vm.Alike.refl U.vm) qK, qD⟩, fun U hU hW => ⟨rfl, by rw [hU], by rw [hU]; exact hPc, va_K.moved hW.alike hK, hDc.weaken (fun _ _ _ _ => trivial)⟩⟩ rfl rfl hl.1 rfl (lv_room (Nat.le_of_ble_eq_true rfl)) dX12_lookAt_80 ⟨Nat.le_of_ble_eq_true rfl, Nat.le_of_ble_eq_true rfl⟩) hS (fun q _ h => hFc q h) hFc (fun r80 u9 t9 H1 locs ht9 hvm9 hw9 hB9 hz9 hkk9 hS => ?_)
            have hw9 : y80 = r80 := hw9.symm
            subst hw9
            obtain ⟨hP9, hK9, hD9⟩ := hB9
            rw [ht9] at hP9
            obtain ⟨hP, hD⟩ := va_join (wr := [(q_sights, .inl (cI, 12, .inl v_sights)), (q_this, .inr (12, [.ref q_town, .ref q_read, .ref q_now, .ref q_aside, .ref q_past, .int v_undos, .ref q_images, .ref q_kept, .long v_seed, .ref q_text, .int v_size, .int v_fault, .ref q_sights, .int v_sightMany, .ref q_book, .int v_bookMany, .int v_at, .int v_begin, .int v_sign, .int v_figures, .int v_value, .int v_wrong, .ref q_went, .ref q_free, .ref q_stands])), (q_town, .inl (cI, 27, .inl v_town))]) (w1 := []) hP hD [] [0, 1, 2] rfl rfl (by decide) (by decide) hkk9 hFc hP9 hD9
            generalize H1 = H at hP hS ⊢
            have hP : va_P (dC, dI) vwCl [(q_sights, .inl (cI, 12, .inl v_sights)), (q_this, .inr (12, [.ref q_town, .ref q_read, .ref q_now, .ref q_aside, .ref q_past, .int v_undos, .ref q_images, .ref q_kept, .long v_seed, .ref q_text, .int v_size, .int v_fault, .ref q_sights, .int v_sightMany, .ref q_book, .int v_bookMany, .int v_at, .int v_begin, .int v_sign, .int v_figures, .int v_value, .int v_wrong, .ref q_went, .ref q_free, .ref q_stands])), (q_town, .inl (cI, 27, .inl v_town))] H := hP
            have hD : va_D A [(q_sights, .inl (cI, 12, .inl v_sights)), (q_this, .inr (12, [.ref q_town, .ref q_read, .ref q_now, .ref q_aside, .ref q_past, .int v_undos, .ref q_images, .ref q_kept, .long v_seed, .ref q_text, .int v_size, .int v_fault, .ref q_sights, .int v_sightMany, .ref q_book, .int v_bookMany, .int v_at, .int v_begin, .int v_sign, .int v_figures, .int v_value, .int v_wrong, .ref q_went, .ref q_free, .ref q_stands])), (q_town, .inl (cI, 27, .inl v_town))] := hD
            refine lv_istore_n (lv' := [(3, .int y80), (4, .int w18.1), (7, .int y37), (6, .int y37), (5, .int w18.1), (2, .int y6), (1, .int y1), (0, .ref q_this)]) hx hb dX12_lookAt_83 rfl hl (by decide) rfl (fun ls hl => ?_)
            refine lv_iinc (v := (w18.1 + 1)) (lv' := [(5, .int (w18.1 + 1)), (3, .int y80), (4, .int w18.1), (7, .int y37), (6, .int y37), (2, .int y6), (1, .int y1), (0, .ref q_this)]) hx hb dX12_lookAt_84 hl (k := 4) rfl rfl (by decide) rfl (fun ls hl => ?_)
            refine lv_goto (tgt := 18) hx hb dX12_lookAt_87 (by decide) ?_
            have hr9 := Option.some.inj hrun
            subst hr9
            exact ih ((w18.1 + 1), w18.1, y80) _ hnext hexit _ _ _ (hP.sub [1, 2, 0] rfl) (hD.sub [1, 2, 0] (by decide) rfl) hS (lv_sub hl [0, 2, 1, 5, 6, 7] rfl)
  refine hL18 oz_fuel (0, (-1), y6) o18 hlp18 (fun H locs ls hP hD hS hl => ?_) _ _ _ (hP.sub [0, 1, 2] rfl) (hD.sub [0, 1, 2] (by decide) rfl) hS (lv_sub hl [0, 1, 2, 3, 4, 5] rfl)
  have hP : va_P (dC, dI) vwCl [(q_this, .inr (12, [.ref q_town, .ref q_read, .ref q_now, .ref q_aside, .ref q_past, .int v_undos, .ref q_images, .ref q_kept, .long v_seed, .ref q_text, .int v_size, .int v_fault, .ref q_sights, .int v_sightMany, .ref q_book, .int v_bookMany, .int v_at, .int v_begin, .int v_sign, .int v_figures, .int v_value, .int v_wrong, .ref q_went, .ref q_free, .ref q_stands])), (q_town, .inl (cI, 27, .inl v_town)), (q_sights, .inl (cI, 12, .inl v_sights))] H := hP
  have hD : va_D A [(q_this, .inr (12, [.ref q_town, .ref q_read, .ref q_now, .ref q_aside, .ref q_past, .int v_undos, .ref q_images, .ref q_kept, .long v_seed, .ref q_text, .int v_size, .int v_fault, .ref q_sights, .int v_sightMany, .ref q_book, .int v_bookMany, .int v_at, .int v_begin, .int v_sign, .int v_figures, .int v_value, .int v_wrong, .ref q_went, .ref q_free, .ref q_stands])), (q_town, .inl (cI, 27, .inl v_town)), (q_sights, .inl (cI, 12, .inl v_sights))] := hD
  have hl : lv_has ls 8 [(5, .int o18.1), (4, .int o18.2.1), (3, .int o18.2.2), (2, .int y6), (1, .int y1), (0, .ref q_this)] := hl
  refine lv_iload hx hb dX12_lookAt_90 (lv_at hl 1 rfl) ?_
  have ho9 := Option.some.inj hrun
  subst ho9
  have hP9 := hP.sub (ws' := [(q_this, .inr (12, [.ref q_town, .ref q_read, .ref q_now, .ref q_aside, .ref q_past, .int v_undos, .ref q_images, .ref q_kept, .long v_seed, .ref q_text, .int v_size, .int v_fault, .ref q_sights, .int v_sightMany, .ref q_book, .int v_bookMany, .int v_at, .int v_begin, .int v_sign, .int v_figures, .int v_value, .int v_wrong, .ref q_went, .ref q_free, .ref q_stands])), (q_town, .inl (cI, 27, .inl v_town)), (q_sights, .inl (cI, 12, .inl v_sights))]) [0, 1, 2] rfl
  have hD9 := hD.sub (ws' := [(q_this, .inr (12, [.ref q_town, .ref q_read, .ref q_now, .ref q_aside, .ref q_past, .int v_undos, .ref q_images, .ref q_kept, .long v_seed, .ref q_text, .int v_size, .int v_fault, .ref q_sights, .int v_sightMany, .ref q_book, .int v_bookMany, .int v_at, .int v_begin, .int v_sign, .int v_figures, .int v_value, .int v_wrong, .ref q_went, .ref q_free, .ref q_stands])), (q_town, .inl (cI, 27, .inl v_town)), (q_sights, .inl (cI, 12, .inl v_sights))]) [0, 1, 2] (by decide) rfl
  rw [hQ]
  exact W.iret (v := o18.2.1) hx hb hr (fun t ht hW => ⟨⟨o18.2.1, (), rfl, rfl, by rw [ht]; exact hP9, va_K.moved hW.alike hK, hD9⟩, hS.F ht⟩) hS.2.2 dX12_lookAt_92
