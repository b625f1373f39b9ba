def fX12_in (a0 : Int64) (a1 : Int64) (a2 : Int64) : Option (Int32) :=
  if (lg_cmp a0 a1) < 0 then (some (0)) else (if 0 < (lg_cmp a0 a2) then (some (0)) else (some (1)))
def rmX12_in : Room := { frames := 0, cells := 0, slots := 0, locals := 0 }
set_option maxHeartbeats 4000000 in
set_option maxRecDepth 100000 in
theorem tX12_in (l : Launch) (dC : Nat → ClassId) (dI : Nat → Nat → Nat) (cI cZ : ClassId) (sz : Nat) (a0 : Int64) (a1 : Int64) (a2 : Int64) (out : Int32) (hrun : fX12_in a0 a1 a2 = some out) : Met l yX12_in wsX12_in rmX12_in (va_Pc [.long a0, .long a1, .long a2] (fun U => U.heap.size = sz ∧ va_P (dC, dI) vwCl [] U.heap ∧ va_K (dC, dI) vwCl [(cI, .int), (cZ, .boolean)] U ∧ va_D (fun _ => True) [])) (va_Qi (fun (r : Int32) (_ : Unit) => r = out) (fun _ t => va_P (dC, dI) vwCl [] t.heap ∧ va_K (dC, dI) vwCl [(cI, .int), (cZ, .boolean)] t ∧ va_D (va_A [] sz) []) (va_A [] sz)) 0 0 (va_A [] sz) := by
  refine Met.ofW (cc := cX12_in) (maxL := 6) (ret := (some .boolean)) (by decide) rfl ?_
  intro p e s m args below meth c s₁ B hml hv
  obtain ⟨rfl, hsz, hP, hK, hD0⟩ := hv
  have hx := B.exec
  have hb := B.bytes
  have hr := B.returns
  have hts := atoms_spec (ws := wsX12_in) B.pre
  have hown : s.vm.findClass RX12 = some m.cls := findClass_of_methodNamed B.named
  have hlocks := B.notSynchronized
  subst hsz
  have hD := hD0.self (sz := s.heap.size)
  generalize hAe : va_A [] s.heap.size = A at hD ⊢
  have hA : ∀ q : Nat, s.heap.size ≤ q → A q := fun q h => by rw [← hAe]; exact Or.inr h
  have hS : va_S A s.heap s.heap [] := va_S.rf
  have hl := lv_entry ([.long a0, .long a1, .long a2]) (n := 6) (Nat.le_of_ble_eq_true rfl)
  rw [lg_entry_eq]
  generalize (lg_sl ([.long a0, .long a1, .long a2]) ++ List.replicate (6 - (lg_sl ([.long a0, .long a1, .long a2])).length) Slot.unset).toArray = ls at hl ⊢
  have hl : lv_has ls 6 [(0, .long a0), (2, .long a1), (4, .long a2)] := hl
  unfold fX12_in at hrun
  refine oz_genQ (fun Q hQ => ?_)
  refine lv_lload_n hx hb dX12_in_0 rfl (lv_at hl 0 rfl) ?_
  refine lv_lload_n hx hb dX12_in_1 rfl (lv_at hl 1 rfl) ?_
  refine W.lcmp hx hb dX12_in_2 ?_
  refine lv_if_lt (tgt := 17) hx hb dX12_in_3 (by decide) (fun c1 => ?_) (fun c1 => ?_)
  · have hrun := oz_t hrun c1
    refine lv_iconst (v := 0) hx hb dX12_in_17 (by decide) ?_
    have ho9 := Option.some.inj hrun
    subst ho9
    have hP9 := hP.sub (ws' := []) [] rfl
    have hD9 := hD.sub (ws' := []) [] (by decide) rfl
    rw [hQ]
    exact W.zret (v := 0) (ty := .boolean) hx hb hr rfl (fun t ht hW => ⟨⟨0, (), rfl, rfl, by rw [ht]; exact hP9, va_K.moved hW.alike hK, hD9⟩, hS.F ht⟩) hS.2.2 dX12_in_18
  · have hrun := oz_f hrun c1
    refine lv_lload_n hx hb dX12_in_6 rfl (lv_at hl 0 rfl) ?_
    refine lv_lload hx hb dX12_in_7 (lv_at hl 2 rfl) ?_
    refine W.lcmp hx hb dX12_in_9 ?_
    refine lv_if_gt (tgt := 17) hx hb dX12_in_10 (by decide) (fun c2 => ?_) (fun c2 => ?_)
    · have hrun := oz_t hrun c2
      refine lv_iconst (v := 0) hx hb dX12_in_17 (by decide) ?_
      have ho9 := Option.some.inj hrun
      subst ho9
      have hP9 := hP.sub (ws' := []) [] rfl
      have hD9 := hD.sub (ws' := []) [] (by decide) rfl
      rw [hQ]
      exact W.zret (v := 0) (ty := .boolean) hx hb hr rfl (fun t ht hW => ⟨⟨0, (), rfl, rfl, by rw [ht]; exact hP9, va_K.moved hW.alike hK, hD9⟩, hS.F ht⟩) hS.2.2 dX12_in_18
    · have hrun := oz_f hrun c2
      refine lv_iconst (v := 1) hx hb dX12_in_13 (by decide) ?_
      refine lv_goto (tgt := 18) hx hb dX12_in_14 (by decide) ?_
      have ho9 := Option.some.inj hrun
      subst ho9
      have hP9 := hP.sub (ws' := []) [] rfl
      have hD9 := hD.sub (ws' := []) [] (by decide) rfl
      rw [hQ]
      exact W.zret (v := 1) (ty := .boolean) hx hb hr rfl (fun t ht hW => ⟨⟨1, (), rfl, rfl, by rw [ht]; exact hP9, va_K.moved hW.alike hK, hD9⟩, hS.F ht⟩) hS.2.2 dX12_in_18
def fX12_has (a0 : Int32) (a1 : Int32) : Option (Int32) :=
  if ((a0 >>> (a1 &&& 31)) &&& 1) = 1 then (some (1)) else (some (0))
def rmX12_has : Room := { frames := 0, cells := 0, slots := 0, locals := 0 }
set_option maxHeartbeats 4000000 in
set_option maxRecDepth 100000 in
theorem tX12_has (l : Launch) (dC : Nat → ClassId) (dI : Nat → Nat → Nat) (cI cZ : ClassId) (sz : Nat) (a0 : Int32) (a1 : Int32) (out : Int32) (hrun : fX12_has a0 a1 = some out) : Met l yX12_has wsX12_has rmX12_has (va_Pc [.int a0, .int a1] (fun U => U.heap.size = sz ∧ va_P (dC, dI) vwCl [] U.heap ∧ va_K (dC, dI) vwCl [(cI, .int), (cZ, .boolean)] U ∧ va_D (fun _ => True) [])) (va_Qi (fun (r : Int32) (_ : Unit) => r = out) (fun _ t => va_P (dC, dI) vwCl [] t.heap ∧ va_K (dC, dI) vwCl [(cI, .int), (cZ, .boolean)] t ∧ va_D (va_A [] sz) []) (va_A [] sz)) 0 0 (va_A [] sz) := by
  refine Met.ofW (cc := cX12_has) (maxL := 2) (ret := (some .boolean)) (by decide) rfl ?_
  intro p e s m args below meth c s₁ B hml hv
  obtain ⟨rfl, hsz, hP, hK, hD0⟩ := hv
  have hx := B.exec
  have hb := B.bytes
  have hr := B.returns
  have hts := atoms_spec (ws := wsX12_has) B.pre
  have hown : s.vm.findClass RX12 = some m.cls := findClass_of_methodNamed B.named
  have hlocks := B.notSynchronized
  subst hsz
  have hD := hD0.self (sz := s.heap.size)
  generalize hAe : va_A [] s.heap.size = A at hD ⊢
  have hA : ∀ q : Nat, s.heap.size ≤ q → A q := fun q h => by rw [← hAe]; exact Or.inr h
  have hS : va_S A s.heap s.heap [] := va_S.rf
  have hl := lv_entry ([.int a0, .int a1]) (n := 2) (Nat.le_of_ble_eq_true rfl)
  rw [lg_entry_eq]
  generalize (lg_sl ([.int a0, .int a1]) ++ List.replicate (2 - (lg_sl ([.int a0, .int a1])).length) Slot.unset).toArray = ls at hl ⊢
  have hl : lv_has ls 2 [(0, .int a0), (1, .int a1)] := hl
  unfold fX12_has at hrun
  refine oz_genQ (fun Q hQ => ?_)
  refine lv_iload_n hx hb dX12_has_0 rfl (lv_at hl 0 rfl) ?_
  refine lv_iload_n hx hb dX12_has_1 rfl (lv_at hl 1 rfl) ?_
  refine lv_ishr hx hb dX12_has_2 ?_
  refine lv_iconst (v := 1) hx hb dX12_has_3 (by decide) ?_
  refine lv_iand hx hb dX12_has_4 ?_
  refine lv_iconst (v := 1) hx hb dX12_has_5 (by decide) ?_
  refine lv_icmp_ne (tgt := 13) hx hb dX12_has_6 (by decide) (fun c1 => ?_) (fun c1 => ?_)
  · have hrun := oz_f hrun c1
    refine lv_iconst (v := 0) hx hb dX12_has_13 (by decide) ?_
    have ho9 := Option.some.inj hrun
    subst ho9
    have hP9 := hP.sub (ws' := []) [] rfl
    have hD9 := hD.sub (ws' := []) [] (by decide) rfl
    rw [hQ]
    exact W.zret (v := 0) (ty := .boolean) hx hb hr rfl (fun t ht hW => ⟨⟨0, (), rfl, rfl, by rw [ht]; exact hP9, va_K.moved hW.alike hK, hD9⟩, hS.F ht⟩) hS.2.2 dX12_has_14
  · have hrun := oz_t hrun c1
    refine lv_iconst (v := 1) hx hb dX12_has_9 (by decide) ?_
    refine lv_goto (tgt := 14) hx hb dX12_has_10 (by decide) ?_
    have ho9 := Option.some.inj hrun
    subst ho9
    have hP9 := hP.sub (ws' := []) [] rfl
    have hD9 := hD.sub (ws' := []) [] (by decide) rfl
    rw [hQ]
    exact W.zret (v := 1) (ty := .boolean) hx hb hr rfl (fun t ht hW => ⟨⟨1, (), rfl, rfl, by rw [ht]; exact hP9, va_K.moved hW.alike hK, hD9⟩, hS.F ht⟩) hS.2.2 dX12_has_14
def fX12_bits_b4 (w4 : Int32 × Int32) : Option ((Int32 × Int32) ⊕ (Int32 × Int32)) :=
  if w4.1 = 0 then (some (.inr (w4.1, w4.2))) else (some (.inl ((w4.1 &&& (w4.1 - 1)), (w4.2 + 1))))
def fX12_bits (a0 : Int32) : Option (Int32) :=
  Option.bind (oz_loop fX12_bits_b4 oz_fuel (a0, 0)) (fun o4 => some o4.2)
def rmX12_bits : Room := { frames := 0, cells := 0, slots := 0, locals := 0 }
set_option maxHeartbeats 4000000 in
set_option maxRecDepth 100000 in
theorem tX12_bits (l : Launch) (dC : Nat → ClassId) (dI : Nat → Nat → Nat) (cI cZ : ClassId) (sz : Nat) (a0 : Int32) (out : Int32) (hrun : fX12_bits a0 = some out) : Met l yX12_bits wsX12_bits rmX12_bits (va_Pc [.int a0] (fun U => U.heap.size = sz ∧ va_P (dC, dI) vwCl [] U.heap ∧ va_K (dC, dI) vwCl [(cI, .int), (cZ, .boolean)] U ∧ va_D (fun _ => True) [])) (va_Qi (fun (r : Int32) (_ : Unit) => r = out) (fun _ t => va_P (dC, dI) vwCl [] t.heap ∧ va_K (dC, dI) vwCl [(cI, .int), (cZ, .boolean)] t ∧ va_D (va_A [] sz) []) (va_A [] sz)) 0 0 (va_A [] sz) := by
  refine Met.ofW (cc := cX12_bits) (maxL := 3) (ret := (some .int)) (by decide) rfl ?_
  intro p e s m args below meth c s₁ B hml hv
  obtain ⟨rfl, hsz, hP, hK, hD0⟩ := hv
  have hx := B.exec
  have hb := B.bytes
  have hr := B.returns
  have hts := atoms_spec (ws := wsX12_bits) B.pre
  have hown : s.vm.findClass RX12 = some m.cls := findClass_of_methodNamed B.named
  have hlocks := B.notSynchronized
  subst hsz
  have hD := hD0.self (sz := s.heap.size)
  generalize hAe : va_A [] s.heap.size = A at hD ⊢
  have hA : ∀ q : Nat, s.heap.size ≤ q → A q := fun q h => by rw [← hAe]; exact Or.inr h
  have hS : va_S A s.heap s.heap [] := va_S.rf
  have hl := lv_entry ([.int a0]) (n := 3) (Nat.le_of_ble_eq_true rfl)
  rw [lg_entry_eq]
  generalize (lg_sl ([.int a0]) ++ List.replicate (3 - (lg_sl ([.int a0])).length) Slot.unset).toArray = ls at hl ⊢
  have hl : lv_has ls 3 [(0, .int a0)] := hl
  unfold fX12_bits at hrun
  refine oz_genQ (fun Q hQ => ?_)
  refine lv_iconst (v := 0) hx hb dX12_bits_0 (by decide) ?_
  refine lv_istore_n (lv' := [(1, .int 0), (0, .int a0)]) hx hb dX12_bits_1 rfl hl (by decide) rfl (fun ls hl => ?_)
  refine lv_iload_n hx hb dX12_bits_2 rfl (lv_at hl 1 rfl) ?_
  refine lv_istore_n (lv' := [(2, .int a0), (1, .int 0), (0, .int a0)]) hx hb dX12_bits_3 rfl hl (by decide) rfl (fun ls hl => ?_)
  obtain ⟨o4, hlp4, hrun⟩ := oz_bind hrun
  have hL4 : ∀ (n : Nat) (w4 : Int32 × Int32) (o4 : Int32 × Int32), oz_loop fX12_bits_b4 n w4 = some o4 → (∀ (H : Heap) (locs : List Loc) (ls : Array Slot), va_P (dC, dI) vwCl [] H → va_D A [] → va_S A s.heap H locs → lv_has ls 3 [(2, .int o4.1), (1, .int o4.2)] → W p l e (headSpec wsX12_bits rmX12_bits).room s m (([.int a0] : List Value).toArray) below meth c H locs 0 0 Q (F0 m 20 ls [])) → ∀ (H : Heap) (locs : List Loc) (ls : Array Slot), va_P (dC, dI) vwCl [] H → va_D A [] → va_S A s.heap H locs → lv_has ls 3 [(2, .int w4.1), (1, .int w4.2)] → W p l e (headSpec wsX12_bits rmX12_bits).room s m (([.int a0] : List Value).toArray) below meth c H locs 0 0 Q (F0 m 4 ls []) := by
    intro n
    induction n with
    | zero => intro w4 o4 h9; exact (oz_zero h9).elim
    | succ n ih =>
      intro w4 o4 h9 hexit H locs ls hP hD hS hl
      obtain ⟨r9, hrun, hnext⟩ := oz_step h9
      unfold fX12_bits_b4 at hrun
      refine lv_iload_n hx hb dX12_bits_4 rfl (lv_at hl 0 rfl) ?_
      refine lv_if_eq (tgt := 20) hx hb dX12_bits_5 (by decide) (fun c1 => ?_) (fun c1 => ?_)
      · have hrun := oz_t hrun c1
        have hr9 := Option.some.inj hrun
        subst hr9
        have ho9 : (w4.1, w4.2) = o4 := hnext
        subst ho9
        exact hexit _ _ _ (hP.sub [] rfl) (hD.sub [] (by decide) rfl) hS (lv_sub hl [0, 1] rfl)
      · have hrun := oz_f hrun c1
        refine lv_iinc (v := (w4.2 + 1)) (lv' := [(1, .int (w4.2 + 1)), (2, .int w4.1)]) hx hb dX12_bits_8 hl (k := 1) rfl rfl (by decide) rfl (fun ls hl => ?_)
        refine lv_iload_n hx hb dX12_bits_11 rfl (lv_at hl 1 rfl) ?_
        refine lv_iload_n hx hb dX12_bits_12 rfl (lv_at hl 1 rfl) ?_
        refine lv_iconst (v := 1) hx hb dX12_bits_13 (by decide) ?_
        refine lv_isub hx hb dX12_bits_14 ?_
        refine lv_iand hx hb dX12_bits_15 ?_
        refine lv_istore_n (lv' := [(2, .int (w4.1 &&& (w4.1 - 1))), (1, .int (w4.2 + 1))]) hx hb dX12_bits_16 rfl hl (by decide) rfl (fun ls hl => ?_)
        refine lv_goto (tgt := 4) hx hb dX12_bits_17 (by decide) ?_
        have hr9 := Option.some.inj hrun
        subst hr9
        exact ih ((w4.1 &&& (w4.1 - 1)), (w4.2 + 1)) _ hnext hexit _ _ _ (hP.sub [] rfl) (hD.sub [] (by decide) rfl) hS (lv_sub hl [0, 1] rfl)
  refine hL4 oz_fuel (a0, 0) o4 hlp4 (fun H locs ls hP hD hS hl => ?_) _ _ _ (hP.sub [] rfl) (hD.sub [] (by decide) rfl) hS (lv_sub hl [0, 1] rfl)
  have hP : va_P (dC, dI) vwCl [] H := hP
  have hD : va_D A [] := hD
  have hl : lv_has ls 3 [(2, .int o4.1), (1, .int o4.2)] := hl
  refine lv_iload_n hx hb dX12_bits_20 rfl (lv_at hl 1 rfl) ?_
  have ho9 := Option.some.inj hrun
  subst ho9
  have hP9 := hP.sub (ws' := []) [] rfl
  have hD9 := hD.sub (ws' := []) [] (by decide) rfl
  rw [hQ]
  exact W.iret (v := o4.2) hx hb hr (fun t ht hW => ⟨⟨o4.2, (), rfl, rfl, by rw [ht]; exact hP9, va_K.moved hW.alike hK, hD9⟩, hS.F ht⟩) hS.2.2 dX12_bits_21
def fX12_lesser (a0 : Int32) (a1 : Int32) : Option (Int32) :=
  if a1 ≤ a0 then (some a1) else (some a0)
def rmX12_lesser : Room := { frames := 0, cells := 0, slots := 0, locals := 0 }
set_option maxHeartbeats 4000000 in
set_option maxRecDepth 100000 in
theorem tX12_lesser (l : Launch) (dC : Nat → ClassId) (dI : Nat → Nat → Nat) (cI cZ : ClassId) (sz : Nat) (a0 : Int32) (a1 : Int32) (out : Int32) (hrun : fX12_lesser a0 a1 = some out) : Met l yX12_lesser wsX12_lesser rmX12_lesser (va_Pc [.int a0, .int a1] (fun U => U.heap.size = sz ∧ va_P (dC, dI) vwCl [] U.heap ∧ va_K (dC, dI) vwCl [(cI, .int), (cZ, .boolean)] U ∧ va_D (fun _ => True) [])) (va_Qi (fun (r : Int32) (_ : Unit) => r = out) (fun _ t => va_P (dC, dI) vwCl [] t.heap ∧ va_K (dC, dI) vwCl [(cI, .int), (cZ, .boolean)] t ∧ va_D (va_A [] sz) []) (va_A [] sz)) 0 0 (va_A [] sz) := by
  refine Met.ofW (cc := cX12_lesser) (maxL := 2) (ret := (some .int)) (by decide) rfl ?_
  intro p e s m args below meth c s₁ B hml hv
  obtain ⟨rfl, hsz, hP, hK, hD0⟩ := hv
  have hx := B.exec
  have hb := B.bytes
  have hr := B.returns
  have hts := atoms_spec (ws := wsX12_lesser) B.pre
  have hown : s.vm.findClass RX12 = some m.cls := findClass_of_methodNamed B.named
  have hlocks := B.notSynchronized
  subst hsz
  have hD := hD0.self (sz := s.heap.size)
  generalize hAe : va_A [] s.heap.size = A at hD ⊢
  have hA : ∀ q : Nat, s.heap.size ≤ q → A q := fun q h => by rw [← hAe]; exact Or.inr h
  have hS : va_S A s.heap s.heap [] := va_S.rf
  have hl := lv_entry ([.int a0, .int a1]) (n := 2) (Nat.le_of_ble_eq_true rfl)
  rw [lg_entry_eq]
  generalize (lg_sl ([.int a0, .int a1]) ++ List.replicate (2 - (lg_sl ([.int a0, .int a1])).length) Slot.unset).toArray = ls at hl ⊢
  have hl : lv_has ls 2 [(0, .int a0), (1, .int a1)] := hl
  unfold fX12_lesser at hrun
  refine oz_genQ (fun Q hQ => ?_)
  refine lv_iload_n hx hb dX12_lesser_0 rfl (lv_at hl 0 rfl) ?_
  refine lv_iload_n hx hb dX12_lesser_1 rfl (lv_at hl 1 rfl) ?_
  refine lv_icmp_ge (tgt := 9) hx hb dX12_lesser_2 (by decide) (fun c1 => ?_) (fun c1 => ?_)
  · have hrun := oz_t hrun c1
    refine lv_iload_n hx hb dX12_lesser_9 rfl (lv_at hl 1 rfl) ?_
    have ho9 := Option.some.inj hrun
    subst ho9
    have hP9 := hP.sub (ws' := []) [] rfl
    have hD9 := hD.sub (ws' := []) [] (by decide) rfl
    rw [hQ]
    exact W.iret (v := a1) hx hb hr (fun t ht hW => ⟨⟨a1, (), rfl, rfl, by rw [ht]; exact hP9, va_K.moved hW.alike hK, hD9⟩, hS.F ht⟩) hS.2.2 dX12_lesser_10
  · have hrun := oz_f hrun c1
    refine lv_iload_n hx hb dX12_lesser_5 rfl (lv_at hl 0 rfl) ?_
    refine lv_goto (tgt := 10) hx hb dX12_lesser_6 (by decide) ?_
    have ho9 := Option.some.inj hrun
    subst ho9
    have hP9 := hP.sub (ws' := []) [] rfl
    have hD9 := hD.sub (ws' := []) [] (by decide) rfl
    rw [hQ]
    exact W.iret (v := a0) hx hb hr (fun t ht hW => ⟨⟨a0, (), rfl, rfl, by rw [ht]; exact hP9, va_K.moved hW.alike hK, hD9⟩, hS.F ht⟩) hS.2.2 dX12_lesser_10
def fX12_copies_b3 (n_p0 : Nat) (v_p0 : Nat → Int32) (n_p2 : Nat) (a1 : Int32) (a3 : Int32) (a4 : Int32) (w3 : Int32 × (Nat → Int32)) : Option ((Int32 × (Nat → Int32)) ⊕ (Int32 × (Nat → Int32))) :=
  if a4 ≤ w3.1 then (some (.inr (w3.1, w3.2))) else (if ((a1 + w3.1) < 0 ∨ n_p0 ≤ Int32.toNatClampNeg (a1 + w3.1)) then none else if ((a3 + w3.1) < 0 ∨ n_p2 ≤ Int32.toNatClampNeg (a3 + w3.1)) then none else some (.inl ((w3.1 + 1), (upd w3.2 (Int32.toNatClampNeg (a3 + w3.1)) (v_p0 (Int32.toNatClampNeg (a1 + w3.1)))))))
def fX12_copies (n_p0 : Nat) (n_p2 : Nat) (v_p0 : Nat → Int32) (v_p2 : Nat → Int32) (a1 : Int32) (a3 : Int32) (a4 : Int32) : Option ((Nat → Int32)) :=
  Option.bind (oz_loop (fX12_copies_b3 n_p0 v_p0 n_p2 a1 a3 a4) oz_fuel (0, v_p2)) (fun o3 => some o3.2)
def rmX12_copies : Room := { frames := 0, cells := 0, slots := 0, locals := 0 }
set_option maxHeartbeats 4000000 in
set_option maxRecDepth 100000 in
theorem tX12_copies (l : Launch) (dC : Nat → ClassId) (dI : Nat → Nat → Nat) (cI cZ : ClassId) (q_p0 q_p2 : Nat) (sz : Nat) (n_p0 n_p2 : Nat) (v_p0 : Nat → Int32) (v_p2 : Nat → Int32) (a1 : Int32) (a3 : Int32) (a4 : Int32) (out : (Nat → Int32)) (hrun : fX12_copies n_p0 n_p2 v_p0 v_p2 a1 a3 a4 = some out) : Met l yX12_copies wsX12_copies rmX12_copies (va_Pc [.ref q_p0, .int a1, .ref q_p2, .int a3, .int a4] (fun U => U.heap.size = sz ∧ va_P (dC, dI) vwCl [(q_p0, .inl (cI, n_p0, .inl v_p0)), (q_p2, .inl (cI, n_p2, .inl v_p2))] U.heap ∧ va_K (dC, dI) vwCl [(cI, .int), (cZ, .boolean)] U ∧ va_D (fun _ => True) [(q_p0, .inl (cI, n_p0, .inl v_p0)), (q_p2, .inl (cI, n_p2, .inl v_p2))])) (va_Qv (fun _ : Unit => True) (fun _ t => va_P (dC, dI) vwCl [(q_p0, .inl (cI, n_p0, .inl v_p0)), (q_p2, .inl (cI, n_p2, .inl out))] t.heap ∧ va_K (dC, dI) vwCl [(cI, .int), (cZ, .boolean)] t ∧ va_D (va_A [(q_p0, .inl (cI, n_p0, .inl v_p0)), (q_p2, .inl (cI, n_p2, .inl v_p2))] sz) [(q_p0, .inl (cI, n_p0, .inl v_p0)), (q_p2, .inl (cI, n_p2, .inl out))]) (va_A [(q_p0, .inl (cI, n_p0, .inl v_p0)), (q_p2, .inl (cI, n_p2, .inl v_p2))] sz)) 0 0 (va_A [(q_p0, .inl (cI, n_p0, .inl v_p0)), (q_p2, .inl (cI, n_p2, .inl v_p2))] sz) := by
  refine Met.ofW (cc := cX12_copies) (maxL := 6) (ret := none) (by decide) rfl ?_
  intro p e s m args below meth c s₁ B hml hv
  obtain ⟨rfl, hsz, hP, hK, hD0⟩ := hv
  have hx := B.exec
  have hb := B.bytes
  have hr := B.returns
  have hts := atoms_spec (ws := wsX12_copies) B.pre
  have hown : s.vm.findClass RX12 = some m.cls := findClass_of_methodNamed B.named
  have hlocks := B.notSynchronized
  subst hsz
  have hD := hD0.self (sz := s.heap.size)
  generalize hAe : va_A [(q_p0, .inl (cI, n_p0, .inl v_p0)), (q_p2, .inl (cI, n_p2, .inl v_p2))] s.heap.size = A at hD ⊢
  have hA : ∀ q : Nat, s.heap.size ≤ q → A q := fun q h => by rw [← hAe]; exact Or.inr h
  have hS : va_S A s.heap s.heap [] := va_S.rf
  have hl := lv_entry ([.ref q_p0, .int a1, .ref q_p2, .int a3, .int a4]) (n := 6) (Nat.le_of_ble_eq_true rfl)
  rw [lg_entry_eq]
  generalize (lg_sl ([.ref q_p0, .int a1, .ref q_p2, .int a3, .int a4]) ++ List.replicate (6 - (lg_sl ([.ref q_p0, .int a1, .ref q_p2, .int a3, .int a4])).length) Slot.unset).toArray = ls at hl ⊢
  have hl : lv_has ls 6 [(0, .ref q_p0), (1, .int a1), (2, .ref q_p2), (3, .int a3), (4, .int a4)] := hl
  unfold fX12_copies at hrun
  refine oz_genQ (fun Q hQ => ?_)
  refine lv_iconst (v := 0) hx hb dX12_copies_0 (by decide) ?_
  refine lv_istore (lv' := [(5, .int 0), (0, .ref q_p0), (1, .int a1), (2, .ref q_p2), (3, .int a3), (4, .int a4)]) hx hb dX12_copies_1 hl (by decide) rfl (fun ls hl => ?_)
  obtain ⟨o3, hlp3, hrun⟩ := oz_bind hrun
  have hL3 : ∀ (n : Nat) (w3 : Int32 × (Nat → Int32)) (o3 : Int32 × (Nat → Int32)), oz_loop (fX12_copies_b3 n_p0 v_p0 n_p2 a1 a3 a4) n w3 = some o3 → (∀ (H : Heap) (locs : List Loc) (ls : Array Slot), va_P (dC, dI) vwCl [(q_p0, .inl (cI, n_p0, .inl v_p0)), (q_p2, .inl (cI, n_p2, .inl o3.2))] H → va_D A [(q_p0, .inl (cI, n_p0, .inl v_p0)), (q_p2, .inl (cI, n_p2, .inl o3.2))] → va_S A s.heap H locs → lv_has ls 6 [(5, .int o3.1), (0, .ref q_p0), (1, .int a1), (2, .ref q_p2), (3, .int a3), (4, .int a4)] → W p l e (headSpec wsX12_copies rmX12_copies).room s m (([.ref q_p0, .int a1, .ref q_p2, .int a3, .int a4] : List Value).toArray) below meth c H locs 0 0 Q (F0 m 28 ls [])) → ∀ (H : Heap) (locs : List Loc) (ls : Array Slot), va_P (dC, dI) vwCl [(q_p0, .inl (cI, n_p0, .inl v_p0)), (q_p2, .inl (cI, n_p2, .inl w3.2))] H → va_D A [(q_p0, .inl (cI, n_p0, .inl v_p0)), (q_p2, .inl (cI, n_p2, .inl w3.2))] → va_S A s.heap H locs → lv_has ls 6 [(5, .int w3.1), (0, .ref q_p0), (1, .int a1), (2, .ref q_p2), (3, .int a3), (4, .int a4)] → W p l e (headSpec wsX12_copies rmX12_copies).room s m (([.ref q_p0, .int a1, .ref q_p2, .int a3, .int a4] : List Value).toArray) below meth c H locs 0 0 Q (F0 m 3 ls []) := by
    intro n
    induction n with
    | zero => intro w3 o3 h9; exact (oz_zero h9).elim
    | succ n ih =>
      intro w3 o3 h9 hexit H locs ls hP hD hS hl
      obtain ⟨r9, hrun, hnext⟩ := oz_step h9
      unfold fX12_copies_b3 at hrun
      refine lv_iload hx hb dX12_copies_3 (lv_at hl 0 rfl) ?_
      refine lv_iload hx hb dX12_copies_5 (lv_at hl 5 rfl) ?_
      refine lv_icmp_ge (tgt := 28) hx hb dX12_copies_7 (by decide) (fun c1 => ?_) (fun c1 => ?_)
      · have hrun := oz_t hrun c1
        have hr9 := Option.some.inj hrun
        subst hr9
        have ho9 : (w3.1, w3.2) = o3 := hnext
        subst ho9
        exact hexit _ _ _ (hP.sub [0, 1] rfl) (hD.sub [0, 1] (by decide) rfl) hS (lv_sub hl [0, 1, 2, 3, 4, 5] rfl)
      · have hrun := oz_f hrun c1
        refine lv_aload_n hx hb dX12_copies_10 rfl (lv_at hl 3 rfl) ?_
        refine lv_iload_n hx hb dX12_copies_11 rfl (lv_at hl 4 rfl) ?_
        refine lv_iload hx hb dX12_copies_12 (lv_at hl 0 rfl) ?_
        refine lv_iadd hx hb dX12_copies_14 ?_
        refine lv_aload_n hx hb dX12_copies_15 rfl (lv_at hl 1 rfl) ?_
        refine lv_iload_n hx hb dX12_copies_16 rfl (lv_at hl 2 rfl) ?_
        refine lv_iload hx hb dX12_copies_17 (lv_at hl 0 rfl) ?_
        refine lv_iadd hx hb dX12_copies_19 ?_
        obtain ⟨c2, hrun⟩ := oz_chk hrun
        refine va_iald hx hb hK hP 0 0 rfl rfl c2 dX12_copies_20 ?_
        obtain ⟨c3, hrun⟩ := oz_chk hrun
        refine va_iast hx hb hK hP hD hS 1 0 rfl rfl c3 dX12_copies_21 (fun H locs hP hD hS => ?_)
        have hP : va_P (dC, dI) vwCl [(q_p0, .inl (cI, n_p0, .inl v_p0)), (q_p2, .inl (cI, n_p2, .inl (upd w3.2 (Int32.toNatClampNeg (a3 + w3.1)) (v_p0 (Int32.toNatClampNeg (a1 + w3.1))))))] H := hP
        have hD : va_D A [(q_p0, .inl (cI, n_p0, .inl v_p0)), (q_p2, .inl (cI, n_p2, .inl (upd w3.2 (Int32.toNatClampNeg (a3 + w3.1)) (v_p0 (Int32.toNatClampNeg (a1 + w3.1))))))] := hD
        refine lv_iinc (v := (w3.1 + 1)) (lv' := [(5, .int (w3.1 + 1)), (0, .ref q_p0), (1, .int a1), (2, .ref q_p2), (3, .int a3), (4, .int a4)]) hx hb dX12_copies_22 hl (k := 0) rfl rfl (by decide) rfl (fun ls hl => ?_)
        refine lv_goto (tgt := 3) hx hb dX12_copies_25 (by decide) ?_
        have hr9 := Option.some.inj hrun
        subst hr9
        exact ih ((w3.1 + 1), (upd w3.2 (Int32.toNatClampNeg (a3 + w3.1)) (v_p0 (Int32.toNatClampNeg (a1 + w3.1))))) _ hnext hexit _ _ _ (hP.sub [0, 1] rfl) (hD.sub [0, 1] (by decide) rfl) hS (lv_sub hl [0, 1, 2, 3, 4, 5] rfl)
  refine hL3 oz_fuel (0, v_p2) o3 hlp3 (fun H locs ls hP hD hS hl => ?_) _ _ _ (hP.sub [0, 1] rfl) (hD.sub [0, 1] (by decide) rfl) hS (lv_sub hl [0, 1, 2, 3, 4, 5] rfl)
  have hP : va_P (dC, dI) vwCl [(q_p0, .inl (cI, n_p0, .inl v_p0)), (q_p2, .inl (cI, n_p2, .inl o3.2))] H := hP
  have hD : va_D A [(q_p0, .inl (cI, n_p0, .inl v_p0)), (q_p2, .inl (cI, n_p2, .inl o3.2))] := hD
  have hl : lv_has ls 6 [(5, .int o3.1), (0, .ref q_p0), (1, .int a1), (2, .ref q_p2), (3, .int a3), (4, .int a4)] := hl
  have ho9 := Option.some.inj hrun
  subst ho9
  have hP9 := hP.sub (ws' := [(q_p0, .inl (cI, n_p0, .inl v_p0)), (q_p2, .inl (cI, n_p2, .inl o3.2))]) [0, 1] rfl
  have hD9 := hD.sub (ws' := [(q_p0, .inl (cI, n_p0, .inl v_p0)), (q_p2, .inl (cI, n_p2, .inl o3.2))]) [0, 1] (by decide) rfl
  rw [hQ]
  exact W.vret hx hb hr (fun t ht hW => ⟨⟨(), rfl, trivial, by rw [ht]; exact hP9, va_K.moved hW.alike hK, hD9⟩, hS.F ht⟩) hS.2.2 dX12_copies_28
def fX12_begins_b2 (w2 : Int32 × (Nat → Int32)) : Option ((Int32 × (Nat → Int32)) ⊕ (Int32 × (Nat → Int32))) :=
  if 19 ≤ w2.1 then (some (.inr (w2.1, w2.2))) else (if (w2.1 < 0 ∨ 19 ≤ Int32.toNatClampNeg w2.1) then none else some (.inl ((w2.1 + 1), (upd w2.2 (Int32.toNatClampNeg w2.1) 0))))
def fX12_begins (v_undos : Int32) (v_sightMany : Int32) (v_bookMany : Int32) (v_now : Nat → Int32) (v_kept : Nat → Int32) : Option (Int32 × Int32 × Int32 × (Nat → Int32) × (Nat → Int32)) :=
  Option.bind (oz_loop fX12_begins_b2 oz_fuel (0, v_now)) (fun o2 => some (0, 0, 0, o2.2, (upd (upd v_kept (Int32.toNatClampNeg 0) (vp_nar .boolean 0)) (Int32.toNatClampNeg 1) (vp_nar .boolean 0))))
def rmX12_begins : Room := { frames := 0, cells := 0, slots := 0, locals := 0 }
set_option maxHeartbeats 4000000 in
set_option maxRecDepth 100000 in
theorem tX12_begins (l : Launch) (dC : Nat → ClassId) (dI : Nat → Nat → Nat) (cI cZ : ClassId) (q_aside q_book q_free q_images q_kept q_now q_past q_read q_sights q_stands q_text q_this q_town q_went : Nat) (sz : Nat) (v_seed : Int64) (v_size : Int32) (v_fault : Int32) (v_at : Int32) (v_begin : Int32) (v_sign : Int32) (v_figures : Int32) (v_value : Int32) (v_wrong : Int32) (v_undos : Int32) (v_sightMany : Int32) (v_bookMany : Int32) (v_now : Nat → Int32) (v_kept : Nat → Int32) (out : Int32 × Int32 × Int32 × (Nat → Int32) × (Nat → Int32)) (hrun : fX12_begins v_undos v_sightMany v_bookMany v_now v_kept = some out) : Met l yX12_begins wsX12_begins rmX12_begins (va_Pc [.ref q_this] (fun U => U.heap.size = sz ∧ va_P (dC, dI) vwCl [(q_this, .inr (12, [.ref q_town, .ref q_read, .ref q_now, .ref q_aside, .ref q_past, .int v_undos, .ref q_images, .ref q_kept, .long v_seed, .ref q_text, .int v_size, .int v_fault, .ref q_sights, .int v_sightMany, .ref q_book, .int v_bookMany, .int v_at, .int v_begin, .int v_sign, .int v_figures, .int v_value, .int v_wrong, .ref q_went, .ref q_free, .ref q_stands])), (q_now, .inl (cI, 19, .inl v_now)), (q_kept, .inl (cZ, 2, .inl v_kept))] U.heap ∧ va_K (dC, dI) vwCl [(cI, .int), (cZ, .boolean)] U ∧ va_D (fun _ => True) [(q_this, .inr (12, [.ref q_town, .ref q_read, .ref q_now, .ref q_aside, .ref q_past, .int v_undos, .ref q_images, .ref q_kept, .long v_seed, .ref q_text, .int v_size, .int v_fault, .ref q_sights, .int v_sightMany, .ref q_book, .int v_bookMany, .int v_at, .int v_begin, .int v_sign, .int v_figures, .int v_value, .int v_wrong, .ref q_went, .ref q_free, .ref q_stands])), (q_now, .inl (cI, 19, .inl v_now)), (q_kept, .inl (cZ, 2, .inl v_kept))])) (va_Qv (fun _ : Unit => True) (fun _ t => va_P (dC, dI) vwCl [(q_this, .inr (12, [.ref q_town, .ref q_read, .ref q_now, .ref q_aside, .ref q_past, .int out.1, .ref q_images, .ref q_kept, .long v_seed, .ref q_text, .int v_size, .int v_fault, .ref q_sights, .int out.2.1, .ref q_book, .int out.2.2.1, .int v_at, .int v_begin, .int v_sign, .int v_figures, .int v_value, .int v_wrong, .ref q_went, .ref q_free, .ref q_stands])), (q_now, .inl (cI, 19, .inl out.2.2.2.1)), (q_kept, .inl (cZ, 2, .inl out.2.2.2.2))] t.heap ∧ va_K (dC, dI) vwCl [(cI, .int), (cZ, .boolean)] t ∧ va_D (va_A [(q_this, .inr (12, [.ref q_town, .ref q_read, .ref q_now, .ref q_aside, .ref q_past, .int v_undos, .ref q_images, .ref q_kept, .long v_seed, .ref q_text, .int v_size, .int v_fault, .ref q_sights, .int v_sightMany, .ref q_book, .int v_bookMany, .int v_at, .int v_begin, .int v_sign, .int v_figures, .int v_value, .int v_wrong, .ref q_went, .ref q_free, .ref q_stands])), (q_now, .inl (cI, 19, .inl v_now)), (q_kept, .inl (cZ, 2, .inl v_kept))] sz) [(q_this, .inr (12, [.ref q_town, .ref q_read, .ref q_now, .ref q_aside, .ref q_past, .int out.1, .ref q_images, .ref q_kept, .long v_seed, .ref q_text, .int v_size, .int v_fault, .ref q_sights, .int out.2.1, .ref q_book, .int out.2.2.1, .int v_at, .int v_begin, .int v_sign, .int v_figures, .int v_value, .int v_wrong, .ref q_went, .ref q_free, .ref q_stands])), (q_now, .inl (cI, 19, .inl out.2.2.2.1)), (q_kept, .inl (cZ, 2, .inl out.2.2.2.2))]) (va_A [(q_this, .inr (12, [.ref q_town, .ref q_read, .ref q_now, .ref q_aside, .ref q_past, .int v_undos, .ref q_images, .ref q_kept, .long v_seed, .ref q_text, .int v_size, .int v_fault, .ref q_sights, .int v_sightMany, .ref q_book, .int v_bookMany, .int v_at, .int v_begin, .int v_sign, .int v_figures, .int v_value, .int v_wrong, .ref q_went, .ref q_free, .ref q_stands])), (q_now, .inl (cI, 19, .inl v_now)), (q_kept, .inl (cZ, 2, .inl v_kept))] sz)) 0 0 (va_A [(q_this, .inr (12, [.ref q_town, .ref q_read, .ref q_now, .ref q_aside, .ref q_past, .int v_undos, .ref q_images, .ref q_kept, .long v_seed, .ref q_text, .int v_size, .int v_fault, .ref q_sights, .int v_sightMany, .ref q_book, .int v_bookMany, .int v_at, .int v_begin, .int v_sign, .int v_figures, .int v_value, .int v_wrong, .ref q_went, .ref q_free, .ref q_stands])), (q_now, .inl (cI, 19, .inl v_now)), (q_kept, .inl (cZ, 2, .inl v_kept))] sz) := by
  refine Met.ofW (cc := cX12_begins) (maxL := 2) (ret := none) (by decide) rfl ?_
  intro p e s m args below meth c s₁ B hml hv
  obtain ⟨rfl, hsz, hP, hK, hD0⟩ := hv
  have hx := B.exec
  have hb := B.bytes
  have hr := B.returns
  have hts := atoms_spec (ws := wsX12_begins) B.pre
  have hown : s.vm.findClass RX12 = some m.cls := findClass_of_methodNamed B.named
  have hlocks := B.notSynchronized
  subst hsz
  have hD := hD0.self (sz := s.heap.size)
  generalize hAe : va_A [(q_this, .inr (12, [.ref q_town, .ref q_read, .ref q_now, .ref q_aside, .ref q_past, .int v_undos, .ref q_images, .ref q_kept, .long v_seed, .ref q_text, .int v_size, .int v_fault, .ref q_sights, .int v_sightMany, .ref q_book, .int v_bookMany, .int v_at, .int v_begin, .int v_sign, .int v_figures, .int v_value, .int v_wrong, .ref q_went, .ref q_free, .ref q_stands])), (q_now, .inl (cI, 19, .inl v_now)), (q_kept, .inl (cZ, 2, .inl v_kept))] s.heap.size = A at hD ⊢
  have hA : ∀ q : Nat, s.heap.size ≤ q → A q := fun q h => by rw [← hAe]; exact Or.inr h
  have hS : va_S A s.heap s.heap [] := va_S.rf
  have hl := lv_entry ([.ref q_this]) (n := 2) (Nat.le_of_ble_eq_true rfl)
  rw [lg_entry_eq]
  generalize (lg_sl ([.ref q_this]) ++ List.replicate (2 - (lg_sl ([.ref q_this])).length) Slot.unset).toArray = ls at hl ⊢
  have hl : lv_has ls 2 [(0, .ref q_this)] := hl
  unfold fX12_begins at hrun
  have hk16 := hts (.fieldLink RX12 16 "LentDrainsModel" "now" "[I") (by decide +kernel)
  have hiX12 : ∀ w ∈ wsX120, w ∈ wsX12_begins := by decide +kernel
  have hk54 := hts (.fieldLink RX12 54 "LentDrainsModel" "undos" "I") (by decide +kernel)
  have hk57 := hts (.fieldLink RX12 57 "LentDrainsModel" "sightMany" "I") (by decide +kernel)
  have hk60 := hts (.fieldLink RX12 60 "LentDrainsModel" "bookMany" "I") (by decide +kernel)
  have hk28 := hts (.fieldLink RX12 28 "LentDrainsModel" "kept" "[Z") (by decide +kernel)
  refine oz_genQ (fun Q hQ => ?_)
  refine lv_iconst (v := 0) hx hb dX12_begins_0 (by decide) ?_
  refine lv_istore_n (lv' := [(1, .int 0), (0, .ref q_this)]) hx hb dX12_begins_1 rfl hl (by decide) rfl (fun ls hl => ?_)
  obtain ⟨o2, hlp2, hrun⟩ := oz_bind hrun
  have hL2 : ∀ (n : Nat) (w2 : Int32 × (Nat → Int32)) (o2 : Int32 × (Nat → Int32)), oz_loop fX12_begins_b2 n w2 = some o2 → (∀ (H : Heap) (locs : List Loc) (ls : Array Slot), va_P (dC, dI) vwCl [(q_this, .inr (12, [.ref q_town, .ref q_read, .ref q_now, .ref q_aside, .ref q_past, .int v_undos, .ref q_images, .ref q_kept, .long v_seed, .ref q_text, .int v_size, .int v_fault, .ref q_sights, .int v_sightMany, .ref q_book, .int v_bookMany, .int v_at, .int v_begin, .int v_sign, .int v_figures, .int v_value, .int v_wrong, .ref q_went, .ref q_free, .ref q_stands])), (q_now, .inl (cI, 19, .inl o2.2)), (q_kept, .inl (cZ, 2, .inl v_kept))] H → va_D A [(q_this, .inr (12, [.ref q_town, .ref q_read, .ref q_now, .ref q_aside, .ref q_past, .int v_undos, .ref q_images, .ref q_kept, .long v_seed, .ref q_text, .int v_size, .int v_fault, .ref q_sights, .int v_sightMany, .ref q_book, .int v_bookMany, .int v_at, .int v_begin, .int v_sign, .int v_figures, .int v_value, .int v_wrong, .ref q_went, .ref q_free, .ref q_stands])), (q_now, .inl (cI, 19, .inl o2.2)), (q_kept, .inl (cZ, 2, .inl v_kept))] → va_S A s.heap H locs → lv_has ls 2 [(1, .int o2.1), (0, .ref q_this)] → W p l e (headSpec wsX12_begins rmX12_begins).room s m (([.ref q_this] : List Value).toArray) below meth c H locs 0 0 Q (F0 m 21 ls [])) → ∀ (H : Heap) (locs : List Loc) (ls : Array Slot), va_P (dC, dI) vwCl [(q_this, .inr (12, [.ref q_town, .ref q_read, .ref q_now, .ref q_aside, .ref q_past, .int v_undos, .ref q_images, .ref q_kept, .long v_seed, .ref q_text, .int v_size, .int v_fault, .ref q_sights, .int v_sightMany, .ref q_book, .int v_bookMany, .int v_at, .int v_begin, .int v_sign, .int v_figures, .int v_value, .int v_wrong, .ref q_went, .ref q_free, .ref q_stands])), (q_now, .inl (cI, 19, .inl w2.2)), (q_kept, .inl (cZ, 2, .inl v_kept))] H → va_D A [(q_this, .inr (12, [.ref q_town, .ref q_read, .ref q_now, .ref q_aside, .ref q_past, .int v_undos, .ref q_images, .ref q_kept, .long v_seed, .ref q_text, .int v_size, .int v_fault, .ref q_sights, .int v_sightMany, .ref q_book, .int v_bookMany, .int v_at, .int v_begin, .int v_sign, .int v_figures, .int v_value, .int v_wrong, .ref q_went, .ref q_free, .ref q_stands])), (q_now, .inl (cI, 19, .inl w2.2)), (q_kept, .inl (cZ, 2, .inl v_kept))] → va_S A s.heap H locs → lv_has ls 2 [(1, .int w2.1), (0, .ref q_this)] → W p l e (headSpec wsX12_begins rmX12_begins).room s m (([.ref q_this] : List Value).toArray) below meth c H locs 0 0 Q (F0 m 2 ls []) := by
    intro n
    induction n with
    | zero => intro w2 o2 h9; exact (oz_zero h9).elim
    | succ n ih =>
      intro w2 o2 h9 hexit H locs ls hP hD hS hl
      obtain ⟨r9, hrun, hnext⟩ := oz_step h9
      unfold fX12_begins_b2 at hrun
      refine lv_iload_n hx hb dX12_begins_2 rfl (lv_at hl 0 rfl) ?_
      refine lv_bipush (v := 19) hx hb dX12_begins_3 (by decide) ?_
      refine lv_icmp_ge (tgt := 21) hx hb dX12_begins_5 (by decide) (fun c1 => ?_) (fun c1 => ?_)
      · have hrun := oz_t hrun c1
        have hr9 := Option.some.inj hrun
        subst hr9
        have ho9 : (w2.1, w2.2) = o2 := hnext
        subst ho9
        exact hexit _ _ _ (hP.sub [0, 1, 2] rfl) (hD.sub [0, 1, 2] (by decide) rfl) hS (lv_sub hl [0, 1] rfl)
      · have hrun := oz_f hrun c1
        refine lv_aload_n hx hb dX12_begins_8 rfl (lv_at hl 1 rfl) ?_
        refine va_get (D := (dC, dI)) (ci := 12) (v := .ref q_now) (C := RX12) (T := TX12) (N := 25) hx hb hts hiX12 hown hK hP 0 rfl rfl 2 (by decide) hk16 (fun _ h9 => h9) rfl dX12_begins_9 ?_
        refine lv_iload_n hx hb dX12_begins_12 rfl (lv_at hl 0 rfl) ?_
        refine lv_iconst (v := 0) hx hb dX12_begins_13 (by decide) ?_
        obtain ⟨c2, hrun⟩ := oz_chk hrun
        refine va_iast hx hb hK hP hD hS 1 0 rfl rfl c2 dX12_begins_14 (fun H locs hP hD hS => ?_)
        have hP : va_P (dC, dI) vwCl [(q_this, .inr (12, [.ref q_town, .ref q_read, .ref q_now, .ref q_aside, .ref q_past, .int v_undos, .ref q_images, .ref q_kept, .long v_seed, .ref q_text, .int v_size, .int v_fault, .ref q_sights, .int v_sightMany, .ref q_book, .int v_bookMany, .int v_at, .int v_begin, .int v_sign, .int v_figures, .int v_value, .int v_wrong, .ref q_went, .ref q_free, .ref q_stands])), (q_now, .inl (cI, 19, .inl (upd w2.2 (Int32.toNatClampNeg w2.1) 0))), (q_kept, .inl (cZ, 2, .inl v_kept))] H := hP
        have hD : va_D A [(q_this, .inr (12, [.ref q_town, .ref q_read, .ref q_now, .ref q_aside, .ref q_past, .int v_undos, .ref q_images, .ref q_kept, .long v_seed, .ref q_text, .int v_size, .int v_fault, .ref q_sights, .int v_sightMany, .ref q_book, .int v_bookMany, .int v_at, .int v_begin, .int v_sign, .int v_figures, .int v_value, .int v_wrong, .ref q_went, .ref q_free, .ref q_stands])), (q_now, .inl (cI, 19, .inl (upd w2.2 (Int32.toNatClampNeg w2.1) 0))), (q_kept, .inl (cZ, 2, .inl v_kept))] := hD
        refine lv_iinc (v := (w2.1 + 1)) (lv' := [(1, .int (w2.1 + 1)), (0, .ref q_this)]) hx hb dX12_begins_15 hl (k := 0) rfl rfl (by decide) rfl (fun ls hl => ?_)
        refine lv_goto (tgt := 2) hx hb dX12_begins_18 (by decide) ?_
        have hr9 := Option.some.inj hrun
        subst hr9
        exact ih ((w2.1 + 1), (upd w2.2 (Int32.toNatClampNeg w2.1) 0)) _ hnext hexit _ _ _ (hP.sub [0, 1, 2] rfl) (hD.sub [0, 1, 2] (by decide) rfl) hS (lv_sub hl [0, 1] rfl)
  refine hL2 oz_fuel (0, v_now) o2 hlp2 (fun H locs ls hP hD hS hl => ?_) _ _ _ (hP.sub [0, 1, 2] rfl) (hD.sub [0, 1, 2] (by decide) rfl) hS (lv_sub hl [0, 1] rfl)
  have hP : va_P (dC, dI) vwCl [(q_this, .inr (12, [.ref q_town, .ref q_read, .ref q_now, .ref q_aside, .ref q_past, .int v_undos, .ref q_images, .ref q_kept, .long v_seed, .ref q_text, .int v_size, .int v_fault, .ref q_sights, .int v_sightMany, .ref q_book, .int v_bookMany, .int v_at, .int v_begin, .int v_sign, .int v_figures, .int v_value, .int v_wrong, .ref q_went, .ref q_free, .ref q_stands])), (q_now, .inl (cI, 19, .inl o2.2)), (q_kept, .inl (cZ, 2, .inl v_kept))] H := hP
  have hD : va_D A [(q_this, .inr (12, [.ref q_town, .ref q_read, .ref q_now, .ref q_aside, .ref q_past, .int v_undos, .ref q_images, .ref q_kept, .long v_seed, .ref q_text, .int v_size, .int v_fault, .ref q_sights, .int v_sightMany, .ref q_book, .int v_bookMany, .int v_at, .int v_begin, .int v_sign, .int v_figures, .int v_value, .int v_wrong, .ref q_went, .ref q_free, .ref q_stands])), (q_now, .inl (cI, 19, .inl o2.2)), (q_kept, .inl (cZ, 2, .inl v_kept))] := hD
  have hl : lv_has ls 2 [(1, .int o2.1), (0, .ref q_this)] := hl
  refine lv_aload_n hx hb dX12_begins_21 rfl (lv_at hl 1 rfl) ?_
  refine lv_iconst (v := 0) hx hb dX12_begins_22 (by decide) ?_
  refine va_put (D := (dC, dI)) (ci := 12) (v := .int 0) (ty := .int) (C := RX12) (T := TX12) (N := 25) hx hb hts hiX12 tyX12 tyX12_ok nmX12 hown hK hP hD hS 0 rfl rfl 5 (by decide) hk54 (fun _ h9 => h9) rfl (by decide +kernel) rfl rfl (Nat.le_of_ble_eq_true rfl) dX12_begins_23 (fun H locs hP hD hS => ?_)
  have hP : va_P (dC, dI) vwCl [(q_this, .inr (12, [.ref q_town, .ref q_read, .ref q_now, .ref q_aside, .ref q_past, .int 0, .ref q_images, .ref q_kept, .long v_seed, .ref q_text, .int v_size, .int v_fault, .ref q_sights, .int v_sightMany, .ref q_book, .int v_bookMany, .int v_at, .int v_begin, .int v_sign, .int v_figures, .int v_value, .int v_wrong, .ref q_went, .ref q_free, .ref q_stands])), (q_now, .inl (cI, 19, .inl o2.2)), (q_kept, .inl (cZ, 2, .inl v_kept))] H := hP
  have hD : va_D A [(q_this, .inr (12, [.ref q_town, .ref q_read, .ref q_now, .ref q_aside, .ref q_past, .int 0, .ref q_images, .ref q_kept, .long v_seed, .ref q_text, .int v_size, .int v_fault, .ref q_sights, .int v_sightMany, .ref q_book, .int v_bookMany, .int v_at, .int v_begin, .int v_sign, .int v_figures, .int v_value, .int v_wrong, .ref q_went, .ref q_free, .ref q_stands])), (q_now, .inl (cI, 19, .inl o2.2)), (q_kept, .inl (cZ, 2, .inl v_kept))] := hD
  refine lv_aload_n hx hb dX12_begins_26 rfl (lv_at hl 1 rfl) ?_
  refine lv_iconst (v := 0) hx hb dX12_begins_27 (by decide) ?_
  refine va_put (D := (dC, dI)) (ci := 12) (v := .int 0) (ty := .int) (C := RX12) (T := TX12) (N := 25) hx hb hts hiX12 tyX12 tyX12_ok nmX12 hown hK hP hD hS 0 rfl rfl 13 (by decide) hk57 (fun _ h9 => h9) rfl (by decide +kernel) rfl rfl (Nat.le_of_ble_eq_true rfl) dX12_begins_28 (fun H locs hP hD hS => ?_)
  have hP : va_P (dC, dI) vwCl [(q_this, .inr (12, [.ref q_town, .ref q_read, .ref q_now, .ref q_aside, .ref q_past, .int 0, .ref q_images, .ref q_kept, .long v_seed, .ref q_text, .int v_size, .int v_fault, .ref q_sights, .int 0, .ref q_book, .int v_bookMany, .int v_at, .int v_begin, .int v_sign, .int v_figures, .int v_value, .int v_wrong, .ref q_went, .ref q_free, .ref q_stands])), (q_now, .inl (cI, 19, .inl o2.2)), (q_kept, .inl (cZ, 2, .inl v_kept))] H := hP
  have hD : va_D A [(q_this, .inr (12, [.ref q_town, .ref q_read, .ref q_now, .ref q_aside, .ref q_past, .int 0, .ref q_images, .ref q_kept, .long v_seed, .ref q_text, .int v_size, .int v_fault, .ref q_sights, .int 0, .ref q_book, .int v_bookMany, .int v_at, .int v_begin, .int v_sign, .int v_figures, .int v_value, .int v_wrong, .ref q_went, .ref q_free, .ref q_stands])), (q_now, .inl (cI, 19, .inl o2.2)), (q_kept, .inl (cZ, 2, .inl v_kept))] := hD
  refine lv_aload_n hx hb dX12_begins_31 rfl (lv_at hl 1 rfl) ?_
  refine lv_iconst (v := 0) hx hb dX12_begins_32 (by decide) ?_
  refine va_put (D := (dC, dI)) (ci := 12) (v := .int 0) (ty := .int) (C := RX12) (T := TX12) (N := 25) hx hb hts hiX12 tyX12 tyX12_ok nmX12 hown hK hP hD hS 0 rfl rfl 15 (by decide) hk60 (fun _ h9 => h9) rfl (by decide +kernel) rfl rfl (Nat.le_of_ble_eq_true rfl) dX12_begins_33 (fun H locs hP hD hS => ?_)
  have hP : va_P (dC, dI) vwCl [(q_this, .inr (12, [.ref q_town, .ref q_read, .ref q_now, .ref q_aside, .ref q_past, .int 0, .ref q_images, .ref q_kept, .long v_seed, .ref q_text, .int v_size, .int v_fault, .ref q_sights, .int 0, .ref q_book, .int 0, .int v_at, .int v_begin, .int v_sign, .int v_figures, .int v_value, .int v_wrong, .ref q_went, .ref q_free, .ref q_stands])), (q_now, .inl (cI, 19, .inl o2.2)), (q_kept, .inl (cZ, 2, .inl v_kept))] H := hP
  have hD : va_D A [(q_this, .inr (12, [.ref q_town, .ref q_read, .ref q_now, .ref q_aside, .ref q_past, .int 0, .ref q_images, .ref q_kept, .long v_seed, .ref q_text, .int v_size, .int v_fault, .ref q_sights, .int 0, .ref q_book, .int 0, .int v_at, .int v_begin, .int v_sign, .int v_figures, .int v_value, .int v_wrong, .ref q_went, .ref q_free, .ref q_stands])), (q_now, .inl (cI, 19, .inl o2.2)), (q_kept, .inl (cZ, 2, .inl v_kept))] := hD
  refine lv_aload_n hx hb dX12_begins_36 rfl (lv_at hl 1 rfl) ?_
  refine va_get (D := (dC, dI)) (ci := 12) (v := .ref q_kept) (C := RX12) (T := TX12) (N := 25) hx hb hts hiX12 hown hK hP 0 rfl rfl 7 (by decide) hk28 (fun _ h9 => h9) rfl dX12_begins_37 ?_
  refine lv_iconst (v := 0) hx hb dX12_begins_40 (by decide) ?_
  refine lv_iconst (v := 0) hx hb dX12_begins_41 (by decide) ?_
  refine va_zast hx hb hK hP hD hS 2 1 rfl rfl (show ¬ ((0 : Int32) < 0 ∨ 2 ≤ (0 : Int32).toNatClampNeg) by decide) dX12_begins_42 (fun H locs hP hD hS => ?_)
  have hP : va_P (dC, dI) vwCl [(q_this, .inr (12, [.ref q_town, .ref q_read, .ref q_now, .ref q_aside, .ref q_past, .int 0, .ref q_images, .ref q_kept, .long v_seed, .ref q_text, .int v_size, .int v_fault, .ref q_sights, .int 0, .ref q_book, .int 0, .int v_at, .int v_begin, .int v_sign, .int v_figures, .int v_value, .int v_wrong, .ref q_went, .ref q_free, .ref q_stands])), (q_now, .inl (cI, 19, .inl o2.2)), (q_kept, .inl (cZ, 2, .inl (upd v_kept (Int32.toNatClampNeg 0) (vp_nar .boolean 0))))] H := hP
  have hD : va_D A [(q_this, .inr (12, [.ref q_town, .ref q_read, .ref q_now, .ref q_aside, .ref q_past, .int 0, .ref q_images, .ref q_kept, .long v_seed, .ref q_text, .int v_size, .int v_fault, .ref q_sights, .int 0, .ref q_book, .int 0, .int v_at, .int v_begin, .int v_sign, .int v_figures, .int v_value, .int v_wrong, .ref q_went, .ref q_free, .ref q_stands])), (q_now, .inl (cI, 19, .inl o2.2)), (q_kept, .inl (cZ, 2, .inl (upd v_kept (Int32.toNatClampNeg 0) (vp_nar .boolean 0))))] := hD
  refine lv_aload_n hx hb dX12_begins_43 rfl (lv_at hl 1 rfl) ?_
  refine va_get (D := (dC, dI)) (ci := 12) (v := .ref q_kept) (C := RX12) (T := TX12) (N := 25) hx hb hts hiX12 hown hK hP 0 rfl rfl 7 (by decide) hk28 (fun _ h9 => h9) rfl dX12_begins_44 ?_
  refine lv_iconst (v := 1) hx hb dX12_begins_47 (by decide) ?_
  refine lv_iconst (v := 0) hx hb dX12_begins_48 (by decide) ?_
  refine va_zast hx hb hK hP hD hS 2 1 rfl rfl (show ¬ ((1 : Int32) < 0 ∨ 2 ≤ (1 : Int32).toNatClampNeg) by decide) dX12_begins_49 (fun H locs hP hD hS => ?_)
  have hP : va_P (dC, dI) vwCl [(q_this, .inr (12, [.ref q_town, .ref q_read, .ref q_now, .ref q_aside, .ref q_past, .int 0, .ref q_images, .ref q_kept, .long v_seed, .ref q_text, .int v_size, .int v_fault, .ref q_sights, .int 0, .ref q_book, .int 0, .int v_at, .int v_begin, .int v_sign, .int v_figures, .int v_value, .int v_wrong, .ref q_went, .ref q_free, .ref q_stands])), (q_now, .inl (cI, 19, .inl o2.2)), (q_kept, .inl (cZ, 2, .inl (upd (upd v_kept (Int32.toNatClampNeg 0) (vp_nar .boolean 0)) (Int32.toNatClampNeg 1) (vp_nar .boolean 0))))] H := hP
  have hD : va_D A [(q_this, .inr (12, [.ref q_town, .ref q_read, .ref q_now, .ref q_aside, .ref q_past, .int 0, .ref q_images, .ref q_kept, .long v_seed, .ref q_text, .int v_size, .int v_fault, .ref q_sights, .int 0, .ref q_book, .int 0, .int v_at, .int v_begin, .int v_sign, .int v_figures, .int v_value, .int v_wrong, .ref q_went, .ref q_free, .ref q_stands])), (q_now, .inl (cI, 19, .inl o2.2)), (q_kept, .inl (cZ, 2, .inl (upd (upd v_kept (Int32.toNatClampNeg 0) (vp_nar .boolean 0)) (Int32.toNatClampNeg 1) (vp_nar .boolean 0))))] := hD
  have ho9 := Option.some.inj hrun
  subst ho9
  have hP9 := hP.sub (ws' := [(q_this, .inr (12, [.ref q_town, .ref q_read, .ref q_now, .ref q_aside, .ref q_past, .int 0, .ref q_images, .ref q_kept, .long v_seed, .ref q_text, .int v_size, .int v_fault, .ref q_sights, .int 0, .ref q_book, .int 0, .int v_at, .int v_begin, .int v_sign, .int v_figures, .int v_value, .int v_wrong, .ref q_went, .ref q_free, .ref q_stands])), (q_now, .inl (cI, 19, .inl o2.2)), (q_kept, .inl (cZ, 2, .inl (upd (upd v_kept (Int32.toNatClampNeg 0) (vp_nar .boolean 0)) (Int32.toNatClampNeg 1) (vp_nar .boolean 0))))]) [0, 1, 2] rfl
  have hD9 := hD.sub (ws' := [(q_this, .inr (12, [.ref q_town, .ref q_read, .ref q_now, .ref q_aside, .ref q_past, .int 0, .ref q_images, .ref q_kept, .long v_seed, .ref q_text, .int v_size, .int v_fault, .ref q_sights, .int 0, .ref q_book, .int 0, .int v_at, .int v_begin, .int v_sign, .int v_figures, .int v_value, .int v_wrong, .ref q_went, .ref q_free, .ref q_stands])), (q_now, .inl (cI, 19, .inl o2.2)), (q_kept, .inl (cZ, 2, .inl (upd (upd v_kept (Int32.toNatClampNeg 0) (vp_nar .boolean 0)) (Int32.toNatClampNeg 1) (vp_nar .boolean 0))))]) [0, 1, 2] (by decide) rfl
  rw [hQ]
  exact W.vret hx hb hr (fun t ht hW => ⟨⟨(), rfl, trivial, by rw [ht]; exact hP9, va_K.moved hW.alike hK, hD9⟩, hS.F ht⟩) hS.2.2 dX12_begins_50
def fX12_feed (v_size : Int32) (v_text : Nat → Int32) (a1 : Int32) : Option (Int32 × Int32 × (Nat → Int32)) :=
  Option.bind (fX12_in (Int32.toInt64 a1) (0 : Int64) (255 : Int64)) (fun y6 => if y6 = 0 then (some ((-1000000002), v_size, v_text)) else (if v_size = 200 then (some ((-1000000004), v_size, v_text)) else (if (v_size < 0 ∨ 200 ≤ Int32.toNatClampNeg v_size) then none else some ((v_size + 1), (v_size + 1), (upd v_text (Int32.toNatClampNeg v_size) a1)))))
def rmX12_feed : Room := { frames := 1, cells := 0, slots := 0, locals := 25 }
set_option maxHeartbeats 4000000 in
set_option maxRecDepth 100000 in
theorem tX12_feed (l : Launch) (dC : Nat → ClassId) (dI : Nat → Nat → Nat) (cI cZ : ClassId) (q_aside q_book q_free q_images q_kept q_now q_past q_read q_sights q_stands q_text q_this q_town q_went : Nat) (sz : Nat) (v_undos : Int32) (v_seed : Int64) (v_fault : Int32) (v_sightMany : Int32) (v_bookMany : Int32) (v_at : Int32) (v_begin : Int32) (v_sign : Int32) (v_figures : Int32) (v_value : Int32) (v_wrong : Int32) (v_size : Int32) (v_text : Nat → Int32) (a1 : Int32) (out : Int32 × Int32 × (Nat → Int32)) (hrun : fX12_feed v_size v_text a1 = some out) : Met l yX12_feed wsX12_feed rmX12_feed (va_Pc [.ref q_this, .int a1] (fun U => U.heap.size = sz ∧ va_P (dC, dI) vwCl [(q_this, .inr (12, [.ref q_town, .ref q_read, .ref q_now, .ref q_aside, .ref q_past, .int v_undos, .ref q_images, .ref q_kept, .long v_seed, .ref q_text, .int v_size, .int v_fault, .ref q_sights, .int v_sightMany, .ref q_book, .int v_bookMany, .int v_at, .int v_begin, .int v_sign, .int v_figures, .int v_value, .int v_wrong, .ref q_went, .ref q_free, .ref q_stands])), (q_text, .inl (cI, 200, .inl v_text))] U.heap ∧ va_K (dC, dI) vwCl [(cI, .int), (cZ, .boolean)] U ∧ va_D (fun _ => True) [(q_this, .inr (12, [.ref q_town, .ref q_read, .ref q_now, .ref q_aside, .ref q_past, .int v_undos, .ref q_images, .ref q_kept, .long v_seed, .ref q_text, .int v_size, .int v_fault, .ref q_sights, .int v_sightMany, .ref q_book, .int v_bookMany, .int v_at, .int v_begin, .int v_sign, .int v_figures, .int v_value, .int v_wrong, .ref q_went, .ref q_free, .ref q_stands])), (q_text, .inl (cI, 200, .inl v_text))])) (va_Qi (fun (r : Int32) (_ : Unit) => r = out.1) (fun _ t => va_P (dC, dI) vwCl [(q_this, .inr (12, [.ref q_town, .ref q_read, .ref q_now, .ref q_aside, .ref q_past, .int v_undos, .ref q_images, .ref q_kept, .long v_seed, .ref q_text, .int out.2.1, .int v_fault, .ref q_sights, .int v_sightMany, .ref q_book, .int v_bookMany, .int v_at, .int v_begin, .int v_sign, .int v_figures, .int v_value, .int v_wrong, .ref q_went, .ref q_free, .ref q_stands])), (q_text, .inl (cI, 200, .inl out.2.2))] t.heap ∧ va_K (dC, dI) vwCl [(cI, .int), (cZ, .boolean)] t ∧ va_D (va_A [(q_this, .inr (12, [.ref q_town, .ref q_read, .ref q_now, .ref q_aside, .ref q_past, .int v_undos, .ref q_images, .ref q_kept, .long v_seed, .ref q_text, .int v_size, .int v_fault, .ref q_sights, .int v_sightMany, .ref q_book, .int v_bookMany, .int v_at, .int v_begin, .int v_sign, .int v_figures, .int v_value, .int v_wrong, .ref q_went, .ref q_free, .ref q_stands])), (q_text, .inl (cI, 200, .inl v_text))] sz) [(q_this, .inr (12, [.ref q_town, .ref q_read, .ref q_now, .ref q_aside, .ref q_past, .int v_undos, .ref q_images, .ref q_kept, .long v_seed, .ref q_text, .int out.2.1, .int v_fault, .ref q_sights, .int v_sightMany, .ref q_book, .int v_bookMany, .int v_at, .int v_begin, .int v_sign, .int v_figures, .int v_value, .int v_wrong, .ref q_went, .ref q_free, .ref q_stands])), (q_text, .inl (cI, 200, .inl out.2.2))]) (va_A [(q_this, .inr (12, [.ref q_town, .ref q_read, .ref q_now, .ref q_aside, .ref q_past, .int v_undos, .ref q_images, .ref q_kept, .long v_seed, .ref q_text, .int v_size, .int v_fault, .ref q_sights, .int v_sightMany, .ref q_book, .int v_bookMany, .int v_at, .int v_begin, .int v_sign, .int v_figures, .int v_value, .int v_wrong, .ref q_went, .ref q_free, .ref q_stands])), (q_text, .inl (cI, 200, .inl v_text))] sz)) 0 0 (va_A [(q_this, .inr (12, [.ref q_town, .ref q_read, .ref q_now, .ref q_aside, .ref q_past, .int v_undos, .ref q_images, .ref q_kept, .long v_seed, .ref q_text, .int v_size, .int v_fault, .ref q_sights, .int v_sightMany, .ref q_book, .int v_bookMany, .int v_at, .int v_begin, .int v_sign, .int v_figures, .int v_value, .int v_wrong, .ref q_went, .ref q_free, .ref q_stands])), (q_text, .inl (cI, 200, .inl v_text))] sz) := by
  refine Met.ofW (cc := cX12_feed) (maxL := 2) (ret := (some .int)) (by decide) rfl ?_
  intro p e s m args below meth c s₁ B hml hv
  obtain ⟨rfl, hsz, hP, hK, hD0⟩ := hv
  have hx := B.exec
  have hb := B.bytes
  have hr := B.returns
  have hts := atoms_spec (ws := wsX12_feed) B.pre
  have hown : s.vm.findClass RX12 = some m.cls := findClass_of_methodNamed B.named
  have hlocks := B.notSynchronized
  subst hsz
  have hD := hD0.self (sz := s.heap.size)
  generalize hAe : va_A [(q_this, .inr (12, [.ref q_town, .ref q_read, .ref q_now, .ref q_aside, .ref q_past, .int v_undos, .ref q_images, .ref q_kept, .long v_seed, .ref q_text, .int v_size, .int v_fault, .ref q_sights, .int v_sightMany, .ref q_book, .int v_bookMany, .int v_at, .int v_begin, .int v_sign, .int v_figures, .int v_value, .int v_wrong, .ref q_went, .ref q_free, .ref q_stands])), (q_text, .inl (cI, 200, .inl v_text))] s.heap.size = A at hD ⊢
  have hA : ∀ q : Nat, s.heap.size ≤ q → A q := fun q h => by rw [← hAe]; exact Or.inr h
  have hS : va_S A s.heap s.heap [] := va_S.rf
  have hl := lv_entry ([.ref q_this, .int a1]) (n := 2) (Nat.le_of_ble_eq_true rfl)
  rw [lg_entry_eq]
  generalize (lg_sl ([.ref q_this, .int a1]) ++ List.replicate (2 - (lg_sl ([.ref q_this, .int a1])).length) Slot.unset).toArray = ls at hl ⊢
  have hl : lv_has ls 2 [(0, .ref q_this), (1, .int a1)] := hl
  unfold fX12_feed at hrun
  have hk63 := hts (.constantLong RX12 63 (255)) (by decide +kernel)
  have hk70 := hts (.fieldLink RX12 70 "LentDrainsModel" "size" "I") (by decide +kernel)
  have hiX12 : ∀ w ∈ wsX120, w ∈ wsX12_feed := by decide +kernel
  have hk32 := hts (.fieldLink RX12 32 "LentDrainsModel" "text" "[I") (by decide +kernel)
  have hk73 := hts (.constant RX12 73 (-1000000004)) (by decide +kernel)
  have hk69 := hts (.constant RX12 69 (-1000000002)) (by decide +kernel)
  refine oz_genQ (fun Q hQ => ?_)
  refine lv_iload_n hx hb dX12_feed_0 rfl (lv_at hl 1 rfl) ?_
  refine lv_i2l hx hb dX12_feed_1 rfl ?_
  refine lv_lconst (v := 0) hx hb dX12_feed_2 (by decide) ?_
  refine lv_ldc2 hx hb hown hk63 dX12_feed_3 ?_
  obtain ⟨y6, hc6, hrun⟩ := oz_bind hrun
  have hPc := hP.sub (ws' := []) [] rfl
  have hDc := hD.sub (ws' := []) [] (by decide) rfl
  have hFc := va_free (wc := []) hD hS hA [] rfl
  refine va_calli (va_runS (As := [.long (Int32.toInt64 a1), .long (0 : Int64), .long (255 : Int64)]) (rest := []) ⟨hx, hb, hml, hown, hts⟩ (tX12_in l dC dI cI cZ s.heap.size (Int32.toInt64 a1) (0 : Int64) (255 : Int64) y6 hc6) (va_cwS 3 hts gX12_feed_X12_in rfl rfl rfl (by decide +kernel) ⟨Nat.le_of_ble_eq_true rfl, Nat.le_of_ble_eq_true rfl⟩) ⟨fun a U g mk q => by obtain ⟨q0, q1, qP, qK, qD⟩ := q; exact ⟨q0, q1, qP, va_K.moved (u := U) (U := U.calling g mk a) (Vm.Alike.refl U.vm) qK, qD⟩, fun U hU hW => ⟨rfl, by rw [hU], by rw [hU]; exact hPc, va_K.moved hW.alike hK, hDc.weaken (fun _ _ _ _ => trivial)⟩⟩ rfl rfl hl.1 rfl (lv_room (Nat.le_of_ble_eq_true rfl)) dX12_feed_6 ⟨Nat.le_of_ble_eq_true rfl, Nat.le_of_ble_eq_true rfl⟩) hS (fun q _ h => hFc q h) hFc (fun r6 u9 t9 H1 locs ht9 hvm9 hw9 hB9 hz9 hkk9 hS => ?_)
  have hw9 : y6 = r6 := hw9.symm
  subst hw9
  obtain ⟨hP9, hK9, hD9⟩ := hB9
  rw [ht9] at hP9
  obtain ⟨hP, hD⟩ := va_join (wr := [(q_this, .inr (12, [.ref q_town, .ref q_read, .ref q_now, .ref q_aside, .ref q_past, .int v_undos, .ref q_images, .ref q_kept, .long v_seed, .ref q_text, .int v_size, .int v_fault, .ref q_sights, .int v_sightMany, .ref q_book, .int v_bookMany, .int v_at, .int v_begin, .int v_sign, .int v_figures, .int v_value, .int v_wrong, .ref q_went, .ref q_free, .ref q_stands])), (q_text, .inl (cI, 200, .inl v_text))]) (w1 := []) hP hD [] [0, 1] rfl rfl (by decide) (by decide) hkk9 hFc hP9 hD9
  generalize H1 = H at hP hS ⊢
  have hP : va_P (dC, dI) vwCl [(q_this, .inr (12, [.ref q_town, .ref q_read, .ref q_now, .ref q_aside, .ref q_past, .int v_undos, .ref q_images, .ref q_kept, .long v_seed, .ref q_text, .int v_size, .int v_fault, .ref q_sights, .int v_sightMany, .ref q_book, .int v_bookMany, .int v_at, .int v_begin, .int v_sign, .int v_figures, .int v_value, .int v_wrong, .ref q_went, .ref q_free, .ref q_stands])), (q_text, .inl (cI, 200, .inl v_text))] H := hP
  have hD : va_D A [(q_this, .inr (12, [.ref q_town, .ref q_read, .ref q_now, .ref q_aside, .ref q_past, .int v_undos, .ref q_images, .ref q_kept, .long v_seed, .ref q_text, .int v_size, .int v_fault, .ref q_sights, .int v_sightMany, .ref q_book, .int v_bookMany, .int v_at, .int v_begin, .int v_sign, .int v_figures, .int v_value, .int v_wrong, .ref q_went, .ref q_free, .ref q_stands])), (q_text, .inl (cI, 200, .inl v_text))] := hD
  refine lv_if_ne (tgt := 15) hx hb dX12_feed_9 (by decide) (fun c1 => ?_) (fun c1 => ?_)
  · have hrun := oz_f hrun c1
    refine lv_aload_n hx hb dX12_feed_15 rfl (lv_at hl 0 rfl) ?_
    refine va_get (D := (dC, dI)) (ci := 12) (v := .int v_size) (C := RX12) (T := TX12) (N := 25) hx hb hts hiX12 hown hK hP 0 rfl rfl 10 (by decide) hk70 (fun _ h9 => h9) rfl dX12_feed_16 ?_
    refine lv_sipush (v := 200) hx hb dX12_feed_19 (by decide) ?_
    refine lv_icmp_ne (tgt := 28) hx hb dX12_feed_22 (by decide) (fun c2 => ?_) (fun c2 => ?_)
    · have hrun := oz_f hrun c2
      refine lv_aload_n hx hb dX12_feed_28 rfl (lv_at hl 0 rfl) ?_
      refine va_get (D := (dC, dI)) (ci := 12) (v := .ref q_text) (C := RX12) (T := TX12) (N := 25) hx hb hts hiX12 hown hK hP 0 rfl rfl 9 (by decide) hk32 (fun _ h9 => h9) rfl dX12_feed_29 ?_
      refine lv_aload_n hx hb dX12_feed_32 rfl (lv_at hl 0 rfl) ?_
      refine va_get (D := (dC, dI)) (ci := 12) (v := .int v_size) (C := RX12) (T := TX12) (N := 25) hx hb hts hiX12 hown hK hP 0 rfl rfl 10 (by decide) hk70 (fun _ h9 => h9) rfl dX12_feed_33 ?_
      refine lv_iload_n hx hb dX12_feed_36 rfl (lv_at hl 1 rfl) ?_
      obtain ⟨c3, hrun⟩ := oz_chk hrun
      refine va_iast hx hb hK hP hD hS 1 0 rfl rfl c3 dX12_feed_37 (fun H locs hP hD hS => ?_)
      have hP : va_P (dC, dI) vwCl [(q_this, .inr (12, [.ref q_town, .ref q_read, .ref q_now, .ref q_aside, .ref q_past, .int v_undos, .ref q_images, .ref q_kept, .long v_seed, .ref q_text, .int v_size, .int v_fault, .ref q_sights, .int v_sightMany, .ref q_book, .int v_bookMany, .int v_at, .int v_begin, .int v_sign, .int v_figures, .int v_value, .int v_wrong, .ref q_went, .ref q_free, .ref q_stands])), (q_text, .inl (cI, 200, .inl (upd v_text (Int32.toNatClampNeg v_size) a1)))] H := hP
      have hD : va_D A [(q_this, .inr (12, [.ref q_town, .ref q_read, .ref q_now, .ref q_aside, .ref q_past, .int v_undos, .ref q_images, .ref q_kept, .long v_seed, .ref q_text, .int v_size, .int v_fault, .ref q_sights, .int v_sightMany, .ref q_book, .int v_bookMany, .int v_at, .int v_begin, .int v_sign, .int v_figures, .int v_value, .int v_wrong, .ref q_went, .ref q_free, .ref q_stands])), (q_text, .inl (cI, 200, .inl (upd v_text (Int32.toNatClampNeg v_size) a1)))] := hD
      refine lv_aload_n hx hb dX12_feed_38 rfl (lv_at hl 0 rfl) ?_
      refine lv_dup hx hb dX12_feed_39 rfl ?_
      refine va_get (D := (dC, dI)) (ci := 12) (v := .int v_size) (C := RX12) (T := TX12) (N := 25) hx hb hts hiX12 hown hK hP 0 rfl rfl 10 (by decide) hk70 (fun _ h9 => h9) rfl dX12_feed_40 ?_
      refine lv_iconst (v := 1) hx hb dX12_feed_43 (by decide) ?_
      refine lv_iadd hx hb dX12_feed_44 ?_
      refine va_put (D := (dC, dI)) (ci := 12) (v := .int (v_size + 1)) (ty := .int) (C := RX12) (T := TX12) (N := 25) hx hb hts hiX12 tyX12 tyX12_ok nmX12 hown hK hP hD hS 0 rfl rfl 10 (by decide) hk70 (fun _ h9 => h9) rfl (by decide +kernel) rfl rfl (Nat.le_of_ble_eq_true rfl) dX12_feed_45 (fun H locs hP hD hS => ?_)
      have hP : va_P (dC, dI) vwCl [(q_this, .inr (12, [.ref q_town, .ref q_read, .ref q_now, .ref q_aside, .ref q_past, .int v_undos, .ref q_images, .ref q_kept, .long v_seed, .ref q_text, .int (v_size + 1), .int v_fault, .ref q_sights, .int v_sightMany, .ref q_book, .int v_bookMany, .int v_at, .int v_begin, .int v_sign, .int v_figures, .int v_value, .int v_wrong, .ref q_went, .ref q_free, .ref q_stands])), (q_text, .inl (cI, 200, .inl (upd v_text (Int32.toNatClampNeg v_size) a1)))] H := hP
      have hD : va_D A [(q_this, .inr (12, [.ref q_town, .ref q_read, .ref q_now, .ref q_aside, .ref q_past, .int v_undos, .ref q_images, .ref q_kept, .long v_seed, .ref q_text, .int (v_size + 1), .int v_fault, .ref q_sights, .int v_sightMany, .ref q_book, .int v_bookMany, .int v_at, .int v_begin, .int v_sign, .int v_figures, .int v_value, .int v_wrong, .ref q_went, .ref q_free, .ref q_stands])), (q_text, .inl (cI, 200, .inl (upd v_text (Int32.toNatClampNeg v_size) a1)))] := hD
      refine lv_aload_n hx hb dX12_feed_48 rfl (lv_at hl 0 rfl) ?_
      refine va_get (D := (dC, dI)) (ci := 12) (v := .int (v_size + 1)) (C := RX12) (T := TX12) (N := 25) hx hb hts hiX12 hown hK hP 0 rfl rfl 10 (by decide) hk70 (fun _ h9 => h9) rfl dX12_feed_49 ?_
      have ho9 := Option.some.inj hrun
      subst ho9
      have hP9 := hP.sub (ws' := [(q_this, .inr (12, [.ref q_town, .ref q_read, .ref q_now, .ref q_aside, .ref q_past, .int v_undos, .ref q_images, .ref q_kept, .long v_seed, .ref q_text, .int (v_size + 1), .int v_fault, .ref q_sights, .int v_sightMany, .ref q_book, .int v_bookMany, .int v_at, .int v_begin, .int v_sign, .int v_figures, .int v_value, .int v_wrong, .ref q_went, .ref q_free, .ref q_stands])), (q_text, .inl (cI, 200, .inl (upd v_text (Int32.toNatClampNeg v_size) a1)))]) [0, 1] rfl
      have hD9 := hD.sub (ws' := [(q_this, .inr (12, [.ref q_town, .ref q_read, .ref q_now, .ref q_aside, .ref q_past, .int v_undos, .ref q_images, .ref q_kept, .long v_seed, .ref q_text, .int (v_size + 1), .int v_fault, .ref q_sights, .int v_sightMany, .ref q_book, .int v_bookMany, .int v_at, .int v_begin, .int v_sign, .int v_figures, .int v_value, .int v_wrong, .ref q_went, .ref q_free, .ref q_stands])), (q_text, .inl (cI, 200, .inl (upd v_text (Int32.toNatClampNeg v_size) a1)))]) [0, 1] (by decide) rfl
      rw [hQ]
      exact W.iret (v := (v_size + 1)) hx hb hr (fun t ht hW => ⟨⟨(v_size + 1), (), rfl, rfl, by rw [ht]; exact hP9, va_K.moved hW.alike hK, hD9⟩, hS.F ht⟩) hS.2.2 dX12_feed_52
    · have hrun := oz_t hrun c2
      refine lv_ldc hx hb hown hk73 dX12_feed_25 ?_
      have ho9 := Option.some.inj hrun
      subst ho9
      have hP9 := hP.sub (ws' := [(q_this, .inr (12, [.ref q_town, .ref q_read, .ref q_now, .ref q_aside, .ref q_past, .int v_undos, .ref q_images, .ref q_kept, .long v_seed, .ref q_text, .int v_size, .int v_fault, .ref q_sights, .int v_sightMany, .ref q_book, .int v_bookMany, .int v_at, .int v_begin, .int v_sign, .int v_figures, .int v_value, .int v_wrong, .ref q_went, .ref q_free, .ref q_stands])), (q_text, .inl (cI, 200, .inl v_text))]) [0, 1] rfl
      have hD9 := hD.sub (ws' := [(q_this, .inr (12, [.ref q_town, .ref q_read, .ref q_now, .ref q_aside, .ref q_past, .int v_undos, .ref q_images, .ref q_kept, .long v_seed, .ref q_text, .int v_size, .int v_fault, .ref q_sights, .int v_sightMany, .ref q_book, .int v_bookMany, .int v_at, .int v_begin, .int v_sign, .int v_figures, .int v_value, .int v_wrong, .ref q_went, .ref q_free, .ref q_stands])), (q_text, .inl (cI, 200, .inl v_text))]) [0, 1] (by decide) rfl
      rw [hQ]
      exact W.iret (v := (-1000000004)) hx hb hr (fun t ht hW => ⟨⟨(-1000000004), (), rfl, rfl, by rw [ht]; exact hP9, va_K.moved hW.alike hK, hD9⟩, hS.F ht⟩) hS.2.2 dX12_feed_27
  · have hrun := oz_t hrun c1
    refine lv_ldc hx hb hown hk69 dX12_feed_12 ?_
    have ho9 := Option.some.inj hrun
    subst ho9
    have hP9 := hP.sub (ws' := [(q_this, .inr (12, [.ref q_town, .ref q_read, .ref q_now, .ref q_aside, .ref q_past, .int v_undos, .ref q_images, .ref q_kept, .long v_seed, .ref q_text, .int v_size, .int v_fault, .ref q_sights, .int v_sightMany, .ref q_book, .int v_bookMany, .int v_at, .int v_begin, .int v_sign, .int v_figures, .int v_value, .int v_wrong, .ref q_went, .ref q_free, .ref q_stands])), (q_text, .inl (cI, 200, .inl v_text))]) [0, 1] rfl
    have hD9 := hD.sub (ws' := [(q_this, .inr (12, [.ref q_town, .ref q_read, .ref q_now, .ref q_aside, .ref q_past, .int v_undos, .ref q_images, .ref q_kept, .long v_seed, .ref q_text, .int v_size, .int v_fault, .ref q_sights, .int v_sightMany, .ref q_book, .int v_bookMany, .int v_at, .int v_begin, .int v_sign, .int v_figures, .int v_value, .int v_wrong, .ref q_went, .ref q_free, .ref q_stands])), (q_text, .inl (cI, 200, .inl v_text))]) [0, 1] (by decide) rfl
    rw [hQ]
    exact W.iret (v := (-1000000002)) hx hb hr (fun t ht hW => ⟨⟨(-1000000002), (), rfl, rfl, by rw [ht]; exact hP9, va_K.moved hW.alike hK, hD9⟩, hS.F ht⟩) hS.2.2 dX12_feed_14
def fX12_here (v_size : Int32) (v_at : Int32) (v_text : Nat → Int32) : Option (Int32) :=
  if v_size ≤ v_at then (some (-1)) else (if (v_at < 0 ∨ 200 ≤ Int32.toNatClampNeg v_at) then none else some (v_text (Int32.toNatClampNeg v_at)))
def rmX12_here : Room := { frames := 0, cells := 0, slots := 0, locals := 0 }
set_option maxHeartbeats 4000000 in
set_option maxRecDepth 100000 in
theorem tX12_here (l : Launch) (dC : Nat → ClassId) (dI : Nat → Nat → Nat) (cI cZ : ClassId) (q_aside q_book q_free q_images q_kept q_now q_past q_read q_sights q_stands q_text q_this q_town q_went : Nat) (sz : Nat) (v_undos : Int32) (v_seed : Int64) (v_fault : Int32) (v_sightMany : Int32) (v_bookMany : Int32) (v_begin : Int32) (v_sign : Int32) (v_figures : Int32) (v_value : Int32) (v_wrong : Int32) (v_size : Int32) (v_at : Int32) (v_text : Nat → Int32) (out : Int32) (hrun : fX12_here v_size v_at v_text = some out) : Met l yX12_here wsX12_here rmX12_here (va_Pc [.ref q_this] (fun U => U.heap.size = sz ∧ va_P (dC, dI) vwCl [(q_this, .inr (12, [.ref q_town, .ref q_read, .ref q_now, .ref q_aside, .ref q_past, .int v_undos, .ref q_images, .ref q_kept, .long v_seed, .ref q_text, .int v_size, .int v_fault, .ref q_sights, .int v_sightMany, .ref q_book, .int v_bookMany, .int v_at, .int v_begin, .int v_sign, .int v_figures, .int v_value, .int v_wrong, .ref q_went, .ref q_free, .ref q_stands])), (q_text, .inl (cI, 200, .inl v_text))] U.heap ∧ va_K (dC, dI) vwCl [(cI, .int), (cZ, .boolean)] U ∧ va_D (fun _ => True) [(q_this, .inr (12, [.ref q_town, .ref q_read, .ref q_now, .ref q_aside, .ref q_past, .int v_undos, .ref q_images, .ref q_kept, .long v_seed, .ref q_text, .int v_size, .int v_fault, .ref q_sights, .int v_sightMany, .ref q_book, .int v_bookMany, .int v_at, .int v_begin, .int v_sign, .int v_figures, .int v_value, .int v_wrong, .ref q_went, .ref q_free, .ref q_stands])), (q_text, .inl (cI, 200, .inl v_text))])) (va_Qi (fun (r : Int32) (_ : Unit) => r = out) (fun _ t => va_P (dC, dI) vwCl [(q_this, .inr (12, [.ref q_town, .ref q_read, .ref q_now, .ref q_aside, .ref q_past, .int v_undos, .ref q_images, .ref q_kept, .long v_seed, .ref q_text, .int v_size, .int v_fault, .ref q_sights, .int v_sightMany, .ref q_book, .int v_bookMany, .int v_at, .int v_begin, .int v_sign, .int v_figures, .int v_value, .int v_wrong, .ref q_went, .ref q_free, .ref q_stands])), (q_text, .inl (cI, 200, .inl v_text))] t.heap ∧ va_K (dC, dI) vwCl [(cI, .int), (cZ, .boolean)] t ∧ va_D (va_A [(q_this, .inr (12, [.ref q_town, .ref q_read, .ref q_now, .ref q_aside, .ref q_past, .int v_undos, .ref q_images, .ref q_kept, .long v_seed, .ref q_text, .int v_size, .int v_fault, .ref q_sights, .int v_sightMany, .ref q_book, .int v_bookMany, .int v_at, .int v_begin, .int v_sign, .int v_figures, .int v_value, .int v_wrong, .ref q_went, .ref q_free, .ref q_stands])), (q_text, .inl (cI, 200, .inl v_text))] sz) [(q_this, .inr (12, [.ref q_town, .ref q_read, .ref q_now, .ref q_aside, .ref q_past, .int v_undos, .ref q_images, .ref q_kept, .long v_seed, .ref q_text, .int v_size, .int v_fault, .ref q_sights, .int v_sightMany, .ref q_book, .int v_bookMany, .int v_at, .int v_begin, .int v_sign, .int v_figures, .int v_value, .int v_wrong, .ref q_went, .ref q_free, .ref q_stands])), (q_text, .inl (cI, 200, .inl v_text))]) (va_A [(q_this, .inr (12, [.ref q_town, .ref q_read, .ref q_now, .ref q_aside, .ref q_past, .int v_undos, .ref q_images, .ref q_kept, .long v_seed, .ref q_text, .int v_size, .int v_fault, .ref q_sights, .int v_sightMany, .ref q_book, .int v_bookMany, .int v_at, .int v_begin, .int v_sign, .int v_figures, .int v_value, .int v_wrong, .ref q_went, .ref q_free, .ref q_stands])), (q_text, .inl (cI, 200, .inl v_text))] sz)) 0 0 (va_A [(q_this, .inr (12, [.ref q_town, .ref q_read, .ref q_now, .ref q_aside, .ref q_past, .int v_undos, .ref q_images, .ref q_kept, .long v_seed, .ref q_text, .int v_size, .int v_fault, .ref q_sights, .int v_sightMany, .ref q_book, .int v_bookMany, .int v_at, .int v_begin, .int v_sign, .int v_figures, .int v_value, .int v_wrong, .ref q_went, .ref q_free, .ref q_stands])), (q_text, .inl (cI, 200, .inl v_text))] sz) := by
  refine Met.ofW (cc := cX12_here) (maxL := 1) (ret := (some .int)) (by decide) rfl ?_
  intro p e s m args below meth c s₁ B hml hv
  obtain ⟨rfl, hsz, hP, hK, hD0⟩ := hv
  have hx := B.exec
  have hb := B.bytes
  have hr := B.returns
  have hts := atoms_spec (ws := wsX12_here) B.pre
  have hown : s.vm.findClass RX12 = some m.cls := findClass_of_methodNamed B.named
  have hlocks := B.notSynchronized
  subst hsz
  have hD := hD0.self (sz := s.heap.size)
  generalize hAe : va_A [(q_this, .inr (12, [.ref q_town, .ref q_read, .ref q_now, .ref q_aside, .ref q_past, .int v_undos, .ref q_images, .ref q_kept, .long v_seed, .ref q_text, .int v_size, .int v_fault, .ref q_sights, .int v_sightMany, .ref q_book, .int v_bookMany, .int v_at, .int v_begin, .int v_sign, .int v_figures, .int v_value, .int v_wrong, .ref q_went, .ref q_free, .ref q_stands])), (q_text, .inl (cI, 200, .inl v_text))] s.heap.size = A at hD ⊢
  have hA : ∀ q : Nat, s.heap.size ≤ q → A q := fun q h => by rw [← hAe]; exact Or.inr h
  have hS : va_S A s.heap s.heap [] := va_S.rf
  have hl := lv_entry ([.ref q_this]) (n := 1) (Nat.le_of_ble_eq_true rfl)
  rw [lg_entry_eq]
  generalize (lg_sl ([.ref q_this]) ++ List.replicate (1 - (lg_sl ([.ref q_this])).length) Slot.unset).toArray = ls at hl ⊢
  have hl : lv_has ls 1 [(0, .ref q_this)] := hl
  unfold fX12_here at hrun
  have hk74 := hts (.fieldLink RX12 74 "LentDrainsModel" "at" "I") (by decide +kernel)
  have hiX12 : ∀ w ∈ wsX120, w ∈ wsX12_here := by decide +kernel
  have hk70 := hts (.fieldLink RX12 70 "LentDrainsModel" "size" "I") (by decide +kernel)
  have hk32 := hts (.fieldLink RX12 32 "LentDrainsModel" "text" "[I") (by decide +kernel)
  refine oz_genQ (fun Q hQ => ?_)
  refine lv_aload_n hx hb dX12_here_0 rfl (lv_at hl 0 rfl) ?_
  refine va_get (D := (dC, dI)) (ci := 12) (v := .int v_at) (C := RX12) (T := TX12) (N := 25) hx hb hts hiX12 hown hK hP 0 rfl rfl 16 (by decide) hk74 (fun _ h9 => h9) rfl dX12_here_1 ?_
  refine lv_aload_n hx hb dX12_here_4 rfl (lv_at hl 0 rfl) ?_
  refine va_get (D := (dC, dI)) (ci := 12) (v := .int v_size) (C := RX12) (T := TX12) (N := 25) hx hb hts hiX12 hown hK hP 0 rfl rfl 10 (by decide) hk70 (fun _ h9 => h9) rfl dX12_here_5 ?_
  refine lv_icmp_ge (tgt := 23) hx hb dX12_here_8 (by decide) (fun c1 => ?_) (fun c1 => ?_)
  · have hrun := oz_t hrun c1
    refine lv_iconst (v := (-1)) hx hb dX12_here_23 (by decide) ?_
    have ho9 := Option.some.inj hrun
    subst ho9
    have hP9 := hP.sub (ws' := [(q_this, .inr (12, [.ref q_town, .ref q_read, .ref q_now, .ref q_aside, .ref q_past, .int v_undos, .ref q_images, .ref q_kept, .long v_seed, .ref q_text, .int v_size, .int v_fault, .ref q_sights, .int v_sightMany, .ref q_book, .int v_bookMany, .int v_at, .int v_begin, .int v_sign, .int v_figures, .int v_value, .int v_wrong, .ref q_went, .ref q_free, .ref q_stands])), (q_text, .inl (cI, 200, .inl v_text))]) [0, 1] rfl
    have hD9 := hD.sub (ws' := [(q_this, .inr (12, [.ref q_town, .ref q_read, .ref q_now, .ref q_aside, .ref q_past, .int v_undos, .ref q_images, .ref q_kept, .long v_seed, .ref q_text, .int v_size, .int v_fault, .ref q_sights, .int v_sightMany, .ref q_book, .int v_bookMany, .int v_at, .int v_begin, .int v_sign, .int v_figures, .int v_value, .int v_wrong, .ref q_went, .ref q_free, .ref q_stands])), (q_text, .inl (cI, 200, .inl v_text))]) [0, 1] (by decide) rfl
    rw [hQ]
    exact W.iret (v := (-1)) hx hb hr (fun t ht hW => ⟨⟨(-1), (), rfl, rfl, by rw [ht]; exact hP9, va_K.moved hW.alike hK, hD9⟩, hS.F ht⟩) hS.2.2 dX12_here_24
  · have hrun := oz_f hrun c1
    refine lv_aload_n hx hb dX12_here_11 rfl (lv_at hl 0 rfl) ?_
    refine va_get (D := (dC, dI)) (ci := 12) (v := .ref q_text) (C := RX12) (T := TX12) (N := 25) hx hb hts hiX12 hown hK hP 0 rfl rfl 9 (by decide) hk32 (fun _ h9 => h9) rfl dX12_here_12 ?_
    refine lv_aload_n hx hb dX12_here_15 rfl (lv_at hl 0 rfl) ?_
    refine va_get (D := (dC, dI)) (ci := 12) (v := .int v_at) (C := RX12) (T := TX12) (N := 25) hx hb hts hiX12 hown hK hP 0 rfl rfl 16 (by decide) hk74 (fun _ h9 => h9) rfl dX12_here_16 ?_
    obtain ⟨c2, hrun⟩ := oz_chk hrun
    refine va_iald hx hb hK hP 1 0 rfl rfl c2 dX12_here_19 ?_
    refine lv_goto (tgt := 24) hx hb dX12_here_20 (by decide) ?_
    have ho9 := Option.some.inj hrun
    subst ho9
    have hP9 := hP.sub (ws' := [(q_this, .inr (12, [.ref q_town, .ref q_read, .ref q_now, .ref q_aside, .ref q_past, .int v_undos, .ref q_images, .ref q_kept, .long v_seed, .ref q_text, .int v_size, .int v_fault, .ref q_sights, .int v_sightMany, .ref q_book, .int v_bookMany, .int v_at, .int v_begin, .int v_sign, .int v_figures, .int v_value, .int v_wrong, .ref q_went, .ref q_free, .ref q_stands])), (q_text, .inl (cI, 200, .inl v_text))]) [0, 1] rfl
    have hD9 := hD.sub (ws' := [(q_this, .inr (12, [.ref q_town, .ref q_read, .ref q_now, .ref q_aside, .ref q_past, .int v_undos, .ref q_images, .ref q_kept, .long v_seed, .ref q_text, .int v_size, .int v_fault, .ref q_sights, .int v_sightMany, .ref q_book, .int v_bookMany, .int v_at, .int v_begin, .int v_sign, .int v_figures, .int v_value, .int v_wrong, .ref q_went, .ref q_free, .ref q_stands])), (q_text, .inl (cI, 200, .inl v_text))]) [0, 1] (by decide) rfl
    rw [hQ]
    exact W.iret (v := (v_text (Int32.toNatClampNeg v_at))) hx hb hr (fun t ht hW => ⟨⟨(v_text (Int32.toNatClampNeg v_at)), (), rfl, rfl, by rw [ht]; exact hP9, va_K.moved hW.alike hK, hD9⟩, hS.F ht⟩) hS.2.2 dX12_here_24
def fX12_step_b0 (v_size : Int32) (v_text : Nat → Int32) (w0 : Int32) : Option ((Int32) ⊕ (Int32)) :=
  Option.bind (fX12_here v_size w0 v_text) (fun y1 => if y1 = 32 then (some (.inl (w0 + 1))) else (some (.inr w0)))
def fX12_step_b93 (v_size : Int32) (v_text : Nat → Int32) (w93 : Int32 × Int32 × Int32) : Option ((Int32 × Int32 × Int32) ⊕ (Int32 × Int32 × Int32)) :=
  Option.bind (fX12_here v_size w93.1 v_text) (fun y94 => Option.bind (fX12_in (Int32.toInt64 y94) (48 : Int64) (57 : Int64)) (fun y104 => if y104 = 0 then (some (.inr (w93.1, w93.2.1, w93.2.2))) else (if 3 ≤ w93.2.1 then (some (.inl ((w93.1 + 1), (w93.2.1 + 1), w93.2.2))) else (Option.bind (fX12_here v_size w93.1 v_text) (fun y127 => some (.inl ((w93.1 + 1), (w93.2.1 + 1), (((10 * w93.2.2) + y127) - 48))))))))
def fX12_step (v_size : Int32) (v_at : Int32) (v_begin : Int32) (v_sign : Int32) (v_figures : Int32) (v_value : Int32) (v_text : Nat → Int32) : Option (Int32 × Int32 × Int32 × Int32 × Int32) :=
  Option.bind (oz_loop (fX12_step_b0 v_size v_text) oz_fuel v_at) (fun o0 => Option.bind (fX12_here v_size o0 v_text) (fun y32 => Option.bind (fX12_in (Int32.toInt64 y32) (48 : Int64) (57 : Int64)) (fun y59 => if y59 = 0 then (if 0 ≤ y32 then (some ((o0 + 1), o0, y32, 0, 0)) else (some ((o0 + 0), o0, y32, 0, 0))) else (Option.bind (oz_loop (fX12_step_b93 v_size v_text) oz_fuel (o0, 0, 0)) (fun o93 => some (o93.1, o0, 48, o93.2.1, o93.2.2))))))
def rmX12_step : Room := { frames := 1, cells := 0, slots := 0, locals := 25 }
set_option maxHeartbeats 4000000 in
set_option maxRecDepth 100000 in
theorem tX12_step (l : Launch) (dC : Nat → ClassId) (dI : Nat → Nat → Nat) (cI cZ : ClassId) (q_aside q_book q_free q_images q_kept q_now q_past q_read q_sights q_stands q_text q_this q_town q_went : Nat) (sz : Nat) (v_undos : Int32) (v_seed : Int64) (v_fault : Int32) (v_sightMany : Int32) (v_bookMany : Int32) (v_wrong : Int32) (v_size : Int32) (v_at : Int32) (v_begin : Int32) (v_sign : Int32) (v_figures : Int32) (v_value : Int32) (v_text : Nat → Int32) (out : Int32 × Int32 × Int32 × Int32 × Int32) (hrun : fX12_step v_size v_at v_begin v_sign v_figures v_value v_text = some out) : Met l yX12_step wsX12_step rmX12_step (va_Pc [.ref q_this] (fun U => U.heap.size = sz ∧ va_P (dC, dI) vwCl [(q_this, .inr (12, [.ref q_town, .ref q_read, .ref q_now, .ref q_aside, .ref q_past, .int v_undos, .ref q_images, .ref q_kept, .long v_seed, .ref q_text, .int v_size, .int v_fault, .ref q_sights, .int v_sightMany, .ref q_book, .int v_bookMany, .int v_at, .int v_begin, .int v_sign, .int v_figures, .int v_value, .int v_wrong, .ref q_went, .ref q_free, .ref q_stands])), (q_text, .inl (cI, 200, .inl v_text))] U.heap ∧ va_K (dC, dI) vwCl [(cI, .int), (cZ, .boolean)] U ∧ va_D (fun _ => True) [(q_this, .inr (12, [.ref q_town, .ref q_read, .ref q_now, .ref q_aside, .ref q_past, .int v_undos, .ref q_images, .ref q_kept, .long v_seed, .ref q_text, .int v_size, .int v_fault, .ref q_sights, .int v_sightMany, .ref q_book, .int v_bookMany, .int v_at, .int v_begin, .int v_sign, .int v_figures, .int v_value, .int v_wrong, .ref q_went, .ref q_free, .ref q_stands])), (q_text, .inl (cI, 200, .inl v_text))])) (va_Qv (fun _ : Unit => True) (fun _ t => va_P (dC, dI) vwCl [(q_this, .inr (12, [.ref q_town, .ref q_read, .ref q_now, .ref q_aside, .ref q_past, .int v_undos, .ref q_images, .ref q_kept, .long v_seed, .ref q_text, .int v_size, .int v_fault, .ref q_sights, .int v_sightMany, .ref q_book, .int v_bookMany, .int out.1, .int out.2.1, .int out.2.2.1, .int out.2.2.2.1, .int out.2.2.2.2, .int v_wrong, .ref q_went, .ref q_free, .ref q_stands])), (q_text, .inl (cI, 200, .inl v_text))] t.heap ∧ va_K (dC, dI) vwCl [(cI, .int), (cZ, .boolean)] t ∧ va_D (va_A [(q_this, .inr (12, [.ref q_town, .ref q_read, .ref q_now, .ref q_aside, .ref q_past, .int v_undos, .ref q_images, .ref q_kept, .long v_seed, .ref q_text, .int v_size, .int v_fault, .ref q_sights, .int v_sightMany, .ref q_book, .int v_bookMany, .int v_at, .int v_begin, .int v_sign, .int v_figures, .int v_value, .int v_wrong, .ref q_went, .ref q_free, .ref q_stands])), (q_text, .inl (cI, 200, .inl v_text))] sz) [(q_this, .inr (12, [.ref q_town, .ref q_read, .ref q_now, .ref q_aside, .ref q_past, .int v_undos, .ref q_images, .ref q_kept, .long v_seed, .ref q_text, .int v_size, .int v_fault, .ref q_sights, .int v_sightMany, .ref q_book, .int v_bookMany, .int out.1, .int out.2.1, .int out.2.2.1, .int out.2.2.2.1, .int out.2.2.2.2, .int v_wrong, .ref q_went, .ref q_free, .ref q_stands])), (q_text, .inl (cI, 200, .inl v_text))]) (va_A [(q_this, .inr (12, [.ref q_town, .ref q_read, .ref q_now, .ref q_aside, .ref q_past, .int v_undos, .ref q_images, .ref q_kept, .long v_seed, .ref q_text, .int v_size, .int v_fault, .ref q_sights, .int v_sightMany, .ref q_book, .int v_bookMany, .int v_at, .int v_begin, .int v_sign, .int v_figures, .int v_value, .int v_wrong, .ref q_went, .ref q_free, .ref q_stands])), (q_text, .inl (cI, 200, .inl v_text))] sz)) 0 0 (va_A [(q_this, .inr (12, [.ref q_town, .ref q_read, .ref q_now, .ref q_aside, .ref q_past, .int v_undos, .ref q_images, .ref q_kept, .long v_seed, .ref q_text, .int v_size, .int v_fault, .ref q_sights, .int v_sightMany, .ref q_book, .int v_bookMany, .int v_at, .int v_begin, .int v_sign, .int v_figures, .int v_value, .int v_wrong, .ref q_went, .ref q_free, .ref q_stands])), (q_text, .inl (cI, 200, .inl v_text))] sz) := by
  refine Met.ofW (cc := cX12_step) (maxL := 1) (ret := none) (by decide) rfl ?_
  intro p e s m args below meth c s₁ B hml hv
  obtain ⟨rfl, hsz, hP, hK, hD0⟩ := hv
  have hx := B.exec
  have hb := B.bytes
  have hr := B.returns
  have hts := atoms_spec (ws := wsX12_step) B.pre
  have hown : s.vm.findClass RX12 = some m.cls := findClass_of_methodNamed B.named
  have hlocks := B.notSynchronized
  subst hsz
  have hD := hD0.self (sz := s.heap.size)
  generalize hAe : va_A [(q_this, .inr (12, [.ref q_town, .ref q_read, .ref q_now, .ref q_aside, .ref q_past, .int v_undos, .ref q_images, .ref q_kept, .long v_seed, .ref q_text, .int v_size, .int v_fault, .ref q_sights, .int v_sightMany, .ref q_book, .int v_bookMany, .int v_at, .int v_begin, .int v_sign, .int v_figures, .int v_value, .int v_wrong, .ref q_went, .ref q_free, .ref q_stands])), (q_text, .inl (cI, 200, .inl v_text))] s.heap.size = A at hD ⊢
  have hA : ∀ q : Nat, s.heap.size ≤ q → A q := fun q h => by rw [← hAe]; exact Or.inr h
  have hS : va_S A s.heap s.heap [] := va_S.rf
  have hl := lv_entry ([.ref q_this]) (n := 1) (Nat.le_of_ble_eq_true rfl)
  rw [lg_entry_eq]
  generalize (lg_sl ([.ref q_this]) ++ List.replicate (1 - (lg_sl ([.ref q_this])).length) Slot.unset).toArray = ls at hl ⊢
  have hl : lv_has ls 1 [(0, .ref q_this)] := hl
  unfold fX12_step at hrun
  have hk74 := hts (.fieldLink RX12 74 "LentDrainsModel" "at" "I") (by decide +kernel)
  have hiX12 : ∀ w ∈ wsX120, w ∈ wsX12_step := by decide +kernel
  have hk81 := hts (.fieldLink RX12 81 "LentDrainsModel" "begin" "I") (by decide +kernel)
  have hk84 := hts (.fieldLink RX12 84 "LentDrainsModel" "sign" "I") (by decide +kernel)
  have hk87 := hts (.fieldLink RX12 87 "LentDrainsModel" "figures" "I") (by decide +kernel)
  have hk90 := hts (.fieldLink RX12 90 "LentDrainsModel" "value" "I") (by decide +kernel)
  have hk93 := hts (.constantLong RX12 93 (48)) (by decide +kernel)
  have hk95 := hts (.constantLong RX12 95 (57)) (by decide +kernel)
  refine oz_genQ (fun Q hQ => ?_)
  obtain ⟨o0, hlp0, hrun⟩ := oz_bind hrun
  have hL0 : ∀ (n : Nat) (w0 : Int32) (o0 : Int32), oz_loop (fX12_step_b0 v_size v_text) n w0 = some o0 → (∀ (H : Heap) (locs : List Loc) (ls : Array Slot), va_P (dC, dI) vwCl [(q_this, .inr (12, [.ref q_town, .ref q_read, .ref q_now, .ref q_aside, .ref q_past, .int v_undos, .ref q_images, .ref q_kept, .long v_seed, .ref q_text, .int v_size, .int v_fault, .ref q_sights, .int v_sightMany, .ref q_book, .int v_bookMany, .int o0, .int v_begin, .int v_sign, .int v_figures, .int v_value, .int v_wrong, .ref q_went, .ref q_free, .ref q_stands])), (q_text, .inl (cI, 200, .inl v_text))] H → va_D A [(q_this, .inr (12, [.ref q_town, .ref q_read, .ref q_now, .ref q_aside, .ref q_past, .int v_undos, .ref q_images, .ref q_kept, .long v_seed, .ref q_text, .int v_size, .int v_fault, .ref q_sights, .int v_sightMany, .ref q_book, .int v_bookMany, .int o0, .int v_begin, .int v_sign, .int v_figures, .int v_value, .int v_wrong, .ref q_went, .ref q_free, .ref q_stands])), (q_text, .inl (cI, 200, .inl v_text))] → va_S A s.heap H locs → lv_has ls 1 [(0, .ref q_this)] → W p l e (headSpec wsX12_step rmX12_step).room s m (([.ref q_this] : List Value).toArray) below meth c H locs 0 0 Q (F0 m 22 ls [])) → ∀ (H : Heap) (locs : List Loc) (ls : Array Slot), va_P (dC, dI) vwCl [(q_this, .inr (12, [.ref q_town, .ref q_read, .ref q_now, .ref q_aside, .ref q_past, .int v_undos, .ref q_images, .ref q_kept, .long v_seed, .ref q_text, .int v_size, .int v_fault, .ref q_sights, .int v_sightMany, .ref q_book, .int v_bookMany, .int w0, .int v_begin, .int v_sign, .int v_figures, .int v_value, .int v_wrong, .ref q_went, .ref q_free, .ref q_stands])), (q_text, .inl (cI, 200, .inl v_text))] H → va_D A [(q_this, .inr (12, [.ref q_town, .ref q_read, .ref q_now, .ref q_aside, .ref q_past, .int v_undos, .ref q_images, .ref q_kept, .long v_seed, .ref q_text, .int v_size, .int v_fault, .ref q_sights, .int v_sightMany, .ref q_book, .int v_bookMany, .int w0, .int v_begin, .int v_sign, .int v_figures, .int v_value, .int v_wrong, .ref q_went, .ref q_free, .ref q_stands])), (q_text, .inl (cI, 200, .inl v_text))] → va_S A s.heap H locs → lv_has ls 1 [(0, .ref q_this)] → W p l e (headSpec wsX12_step rmX12_step).room s m (([.ref q_this] : List Value).toArray) below meth c H locs 0 0 Q (F0 m 0 ls []) := by
    intro n
    induction n with
    | zero => intro w0 o0 h9; exact (oz_zero h9).elim
    | succ n ih =>
      intro w0 o0 h9 hexit H locs ls hP hD hS hl
      obtain ⟨r9, hrun, hnext⟩ := oz_step h9
      unfold fX12_step_b0 at hrun
      refine lv_aload_n hx hb dX12_step_0 rfl (lv_at hl 0 rfl) ?_
      obtain ⟨y1, hc1, hrun⟩ := oz_bind hrun
      have hPc := hP.sub (ws' := [(q_this, .inr (12, [.ref q_town, .ref q_read, .ref q_now, .ref q_aside, .ref q_past, .int v_undos, .ref q_images, .ref q_kept, .long v_seed, .ref q_text, .int v_size, .int v_fault, .ref q_sights, .int v_sightMany, .ref q_book, .int v_bookMany, .int w0, .int v_begin, .int v_sign, .int v_figures, .int v_value, .int v_wrong, .ref q_went, .ref q_free, .ref q_stands])), (q_text, .inl (cI, 200, .inl v_text))]) [0, 1] rfl
      have hDc := hD.sub (ws' := [(q_this, .inr (12, [.ref q_town, .ref q_read, .ref q_now, .ref q_aside, .ref q_past, .int v_undos, .ref q_images, .ref q_kept, .long v_seed, .ref q_text, .int v_size, .int v_fault, .ref q_sights, .int v_sightMany, .ref q_book, .int v_bookMany, .int w0, .int v_begin, .int v_sign, .int v_figures, .int v_value, .int v_wrong, .ref q_went, .ref q_free, .ref q_stands])), (q_text, .inl (cI, 200, .inl v_text))]) [0, 1] (by decide) rfl
      have hFc := va_free (wc := [(q_this, .inr (12, [.ref q_town, .ref q_read, .ref q_now, .ref q_aside, .ref q_past, .int v_undos, .ref q_images, .ref q_kept, .long v_seed, .ref q_text, .int v_size, .int v_fault, .ref q_sights, .int v_sightMany, .ref q_book, .int v_bookMany, .int w0, .int v_begin, .int v_sign, .int v_figures, .int v_value, .int v_wrong, .ref q_went, .ref q_free, .ref q_stands])), (q_text, .inl (cI, 200, .inl v_text))]) hD hS hA [0, 1] rfl
      refine va_calli (va_runV (As := []) (rest := []) ⟨hx, hb, hml, hown, hts⟩ (tX12_here l dC dI cI cZ q_aside q_book q_free q_images q_kept q_now q_past q_read q_sights q_stands q_text q_this q_town q_went H.size v_undos v_seed v_fault v_sightMany v_bookMany v_begin v_sign v_figures v_value v_wrong v_size w0 v_text y1 hc1) (cwV 0 hts gX12_step_X12_here rfl rfl rfl (by decide +kernel) ⟨Nat.le_of_ble_eq_true rfl, Nat.le_of_ble_eq_true rfl⟩) ⟨fun a U g mk q => by obtain ⟨q0, q1, qP, qK, qD⟩ := q; exact ⟨q0, q1, qP, va_K.moved (u := U) (U := U.calling g mk a) (Vm.Alike.refl U.vm) qK, qD⟩, va_recv hK hPc (ci := 12) (q0 := 0) rfl rfl, fun U hU hW => ⟨rfl, by rw [hU], by rw [hU]; exact hPc, va_K.moved hW.alike hK, hDc.weaken (fun _ _ _ _ => trivial)⟩⟩ rfl rfl hl.1 rfl (lv_room (Nat.le_of_ble_eq_true rfl)) dX12_step_1 ⟨Nat.le_of_ble_eq_true rfl, Nat.le_of_ble_eq_true rfl⟩) hS (fun q _ h => hFc q h) hFc (fun r1 u9 t9 H1 locs ht9 hvm9 hw9 hB9 hz9 hkk9 hS => ?_)
      have hw9 : y1 = r1 := hw9.symm
      subst hw9
      obtain ⟨hP9, hK9, hD9⟩ := hB9
      rw [ht9] at hP9
      obtain ⟨hP, hD⟩ := va_join (wr := []) (w1 := [(q_this, .inr (12, [.ref q_town, .ref q_read, .ref q_now, .ref q_aside, .ref q_past, .int v_undos, .ref q_images, .ref q_kept, .long v_seed, .ref q_text, .int v_size, .int v_fault, .ref q_sights, .int v_sightMany, .ref q_book, .int v_bookMany, .int w0, .int v_begin, .int v_sign, .int v_figures, .int v_value, .int v_wrong, .ref q_went, .ref q_free, .ref q_stands])), (q_text, .inl (cI, 200, .inl v_text))]) hP hD [0, 1] [] rfl rfl (by decide) (by decide) hkk9 hFc hP9 hD9
      generalize H1 = H at hP hS ⊢
      have hP : va_P (dC, dI) vwCl [(q_this, .inr (12, [.ref q_town, .ref q_read, .ref q_now, .ref q_aside, .ref q_past, .int v_undos, .ref q_images, .ref q_kept, .long v_seed, .ref q_text, .int v_size, .int v_fault, .ref q_sights, .int v_sightMany, .ref q_book, .int v_bookMany, .int w0, .int v_begin, .int v_sign, .int v_figures, .int v_value, .int v_wrong, .ref q_went, .ref q_free, .ref q_stands])), (q_text, .inl (cI, 200, .inl v_text))] H := hP
      have hD : va_D A [(q_this, .inr (12, [.ref q_town, .ref q_read, .ref q_now, .ref q_aside, .ref q_past, .int v_undos, .ref q_images, .ref q_kept, .long v_seed, .ref q_text, .int v_size, .int v_fault, .ref q_sights, .int v_sightMany, .ref q_book, .int v_bookMany, .int w0, .int v_begin, .int v_sign, .int v_figures, .int v_value, .int v_wrong, .ref q_went, .ref q_free, .ref q_stands])), (q_text, .inl (cI, 200, .inl v_text))] := hD
      refine lv_bipush (v := 32) hx hb dX12_step_4 (by decide) ?_
      refine lv_icmp_ne (tgt := 22) hx hb dX12_step_6 (by decide) (fun c1 => ?_) (fun c1 => ?_)
      · have hrun := oz_f hrun c1
        have hr9 := Option.some.inj hrun
        subst hr9
        have ho9 : w0 = o0 := hnext
        subst ho9
        exact hexit _ _ _ (hP.sub [0, 1] rfl) (hD.sub [0, 1] (by decide) rfl) hS (lv_sub hl [0] rfl)
      · have hrun := oz_t hrun c1
        refine lv_aload_n hx hb dX12_step_9 rfl (lv_at hl 0 rfl) ?_
        refine lv_dup hx hb dX12_step_10 rfl ?_
        refine va_get (D := (dC, dI)) (ci := 12) (v := .int w0) (C := RX12) (T := TX12) (N := 25) hx hb hts hiX12 hown hK hP 0 rfl rfl 16 (by decide) hk74 (fun _ h9 => h9) rfl dX12_step_11 ?_
        refine lv_iconst (v := 1) hx hb dX12_step_14 (by decide) ?_
        refine lv_iadd hx hb dX12_step_15 ?_
        refine va_put (D := (dC, dI)) (ci := 12) (v := .int (w0 + 1)) (ty := .int) (C := RX12) (T := TX12) (N := 25) hx hb hts hiX12 tyX12 tyX12_ok nmX12 hown hK hP hD hS 0 rfl rfl 16 (by decide) hk74 (fun _ h9 => h9) rfl (by decide +kernel) rfl rfl (Nat.le_of_ble_eq_true rfl) dX12_step_16 (fun H locs hP hD hS => ?_)
        have hP : va_P (dC, dI) vwCl [(q_this, .inr (12, [.ref q_town, .ref q_read, .ref q_now, .ref q_aside, .ref q_past, .int v_undos, .ref q_images, .ref q_kept, .long v_seed, .ref q_text, .int v_size, .int v_fault, .ref q_sights, .int v_sightMany, .ref q_book, .int v_bookMany, .int (w0 + 1), .int v_begin, .int v_sign, .int v_figures, .int v_value, .int v_wrong, .ref q_went, .ref q_free, .ref q_stands])), (q_text, .inl (cI, 200, .inl v_text))] H := hP
        have hD : va_D A [(q_this, .inr (12, [.ref q_town, .ref q_read, .ref q_now, .ref q_aside, .ref q_past, .int v_undos, .ref q_images, .ref q_kept, .long v_seed, .ref q_text, .int v_size, .int v_fault, .ref q_sights, .int v_sightMany, .ref q_book, .int v_bookMany, .int (w0 + 1), .int v_begin, .int v_sign, .int v_figures, .int v_value, .int v_wrong, .ref q_went, .ref q_free, .ref q_stands])), (q_text, .inl (cI, 200, .inl v_text))] := hD
        refine lv_goto (tgt := 0) hx hb dX12_step_19 (by decide) ?_
        have hr9 := Option.some.inj hrun
        subst hr9
        exact ih (w0 + 1) _ hnext hexit _ _ _ (hP.sub [0, 1] rfl) (hD.sub [0, 1] (by decide) rfl) hS (lv_sub hl [0] rfl)
  refine hL0 oz_fuel v_at o0 hlp0 (fun H locs ls hP hD hS hl => ?_) _ _ _ (hP.sub [0, 1] rfl) (hD.sub [0, 1] (by decide) rfl) hS (lv_sub hl [0] rfl)
  have hP : va_P (dC, dI) vwCl [(q_this, .inr (12, [.ref q_town, .ref q_read, .ref q_now, .ref q_aside, .ref q_past, .int v_undos, .ref q_images, .ref q_kept, .long v_seed, .ref q_text, .int v_size, .int v_fault, .ref q_sights, .int v_sightMany, .ref q_book, .int v_bookMany, .int o0, .int v_begin, .int v_sign, .int v_figures, .int v_value, .int v_wrong, .ref q_went, .ref q_free, .ref q_stands])), (q_text, .inl (cI, 200, .inl v_text))] H := hP
  have hD : va_D A [(q_this, .inr (12, [.ref q_town, .ref q_read, .ref q_now, .ref q_aside, .ref q_past, .int v_undos, .ref q_images, .ref q_kept, .long v_seed, .ref q_text, .int v_size, .int v_fault, .ref q_sights, .int v_sightMany, .ref q_book, .int v_bookMany, .int o0, .int v_begin, .int v_sign, .int v_figures, .int v_value, .int v_wrong, .ref q_went, .ref q_free, .ref q_stands])), (q_text, .inl (cI, 200, .inl v_text))] := hD
  have hl : lv_has ls 1 [(0, .ref q_this)] := hl
  refine lv_aload_n hx hb dX12_step_22 rfl (lv_at hl 0 rfl) ?_
  refine lv_aload_n hx hb dX12_step_23 rfl (lv_at hl 0 rfl) ?_
  refine va_get (D := (dC, dI)) (ci := 12) (v := .int o0) (C := RX12) (T := TX12) (N := 25) hx hb hts hiX12 hown hK hP 0 rfl rfl 16 (by decide) hk74 (fun _ h9 => h9) rfl dX12_step_24 ?_
  refine va_put (D := (dC, dI)) (ci := 12) (v := .int o0) (ty := .int) (C := RX12) (T := TX12) (N := 25) hx hb hts hiX12 tyX12 tyX12_ok nmX12 hown hK hP hD hS 0 rfl rfl 17 (by decide) hk81 (fun _ h9 => h9) rfl (by decide +kernel) rfl rfl (Nat.le_of_ble_eq_true rfl) dX12_step_27 (fun H locs hP hD hS => ?_)
  have hP : va_P (dC, dI) vwCl [(q_this, .inr (12, [.ref q_town, .ref q_read, .ref q_now, .ref q_aside, .ref q_past, .int v_undos, .ref q_images, .ref q_kept, .long v_seed, .ref q_text, .int v_size, .int v_fault, .ref q_sights, .int v_sightMany, .ref q_book, .int v_bookMany, .int o0, .int o0, .int v_sign, .int v_figures, .int v_value, .int v_wrong, .ref q_went, .ref q_free, .ref q_stands])), (q_text, .inl (cI, 200, .inl v_text))] H := hP
  have hD : va_D A [(q_this, .inr (12, [.ref q_town, .ref q_read, .ref q_now, .ref q_aside, .ref q_past, .int v_undos, .ref q_images, .ref q_kept, .long v_seed, .ref q_text, .int v_size, .int v_fault, .ref q_sights, .int v_sightMany, .ref q_book, .int v_bookMany, .int o0, .int o0, .int v_sign, .int v_figures, .int v_value, .int v_wrong, .ref q_went, .ref q_free, .ref q_stands])), (q_text, .inl (cI, 200, .inl v_text))] := hD
  refine lv_aload_n hx hb dX12_step_30 rfl (lv_at hl 0 rfl) ?_
  refine lv_aload_n hx hb dX12_step_31 rfl (lv_at hl 0 rfl) ?_
  obtain ⟨y32, hc32, hrun⟩ := oz_bind hrun
  have hPc := hP.sub (ws' := [(q_this, .inr (12, [.ref q_town, .ref q_read, .ref q_now, .ref q_aside, .ref q_past, .int v_undos, .ref q_images, .ref q_kept, .long v_seed, .ref q_text, .int v_size, .int v_fault, .ref q_sights, .int v_sightMany, .ref q_book, .int v_bookMany, .int o0, .int o0, .int v_sign, .int v_figures, .int v_value, .int v_wrong, .ref q_went, .ref q_free, .ref q_stands])), (q_text, .inl (cI, 200, .inl v_text))]) [0, 1] rfl
  have hDc := hD.sub (ws' := [(q_this, .inr (12, [.ref q_town, .ref q_read, .ref q_now, .ref q_aside, .ref q_past, .int v_undos, .ref q_images, .ref q_kept, .long v_seed, .ref q_text, .int v_size, .int v_fault, .ref q_sights, .int v_sightMany, .ref q_book, .int v_bookMany, .int o0, .int o0, .int v_sign, .int v_figures, .int v_value, .int v_wrong, .ref q_went, .ref q_free, .ref q_stands])), (q_text, .inl (cI, 200, .inl v_text))]) [0, 1] (by decide) rfl
  have hFc := va_free (wc := [(q_this, .inr (12, [.ref q_town, .ref q_read, .ref q_now, .ref q_aside, .ref q_past, .int v_undos, .ref q_images, .ref q_kept, .long v_seed, .ref q_text, .int v_size, .int v_fault, .ref q_sights, .int v_sightMany, .ref q_book, .int v_bookMany, .int o0, .int o0, .int v_sign, .int v_figures, .int v_value, .int v_wrong, .ref q_went, .ref q_free, .ref q_stands])), (q_text, .inl (cI, 200, .inl v_text))]) hD hS hA [0, 1] rfl
  refine va_calli (va_runV (As := []) (rest := [.ref q_this]) ⟨hx, hb, hml, hown, hts⟩ (tX12_here l dC dI cI cZ q_aside q_book q_free q_images q_kept q_now q_past q_read q_sights q_stands q_text q_this q_town q_went H.size v_undos v_seed v_fault v_sightMany v_bookMany o0 v_sign v_figures v_value v_wrong v_size o0 v_text y32 hc32) (cwV 0 hts gX12_step_X12_here rfl rfl rfl (by decide +kernel) ⟨Nat.le_of_ble_eq_true rfl, Nat.le_of_ble_eq_true rfl⟩) ⟨fun a U g mk q => by obtain ⟨q0, q1, qP, qK, qD⟩ := q; exact ⟨q0, q1, qP, va_K.moved (u := U) (U := U.calling g mk a) (Vm.Alike.refl U.vm) qK, qD⟩, va_recv hK hPc (ci := 12) (q0 := 0) rfl rfl, fun U hU hW => ⟨rfl, by rw [hU], by rw [hU]; exact hPc, va_K.moved hW.alike hK, hDc.weaken (fun _ _ _ _ => trivial)⟩⟩ rfl rfl hl.1 rfl (lv_room (Nat.le_of_ble_eq_true rfl)) dX12_step_32 ⟨Nat.le_of_ble_eq_true rfl, Nat.le_of_ble_eq_true rfl⟩) hS (fun q _ h => hFc q h) hFc (fun r32 u9 t9 H1 locs ht9 hvm9 hw9 hB9 hz9 hkk9 hS => ?_)
  have hw9 : y32 = r32 := hw9.symm
  subst hw9
  obtain ⟨hP9, hK9, hD9⟩ := hB9
  rw [ht9] at hP9
  obtain ⟨hP, hD⟩ := va_join (wr := []) (w1 := [(q_this, .inr (12, [.ref q_town, .ref q_read, .ref q_now, .ref q_aside, .ref q_past, .int v_undos, .ref q_images, .ref q_kept, .long v_seed, .ref q_text, .int v_size, .int v_fault, .ref q_sights, .int v_sightMany, .ref q_book, .int v_bookMany, .int o0, .int o0, .int v_sign, .int v_figures, .int v_value, .int v_wrong, .ref q_went, .ref q_free, .ref q_stands])), (q_text, .inl (cI, 200, .inl v_text))]) hP hD [0, 1] [] rfl rfl (by decide) (by decide) hkk9 hFc hP9 hD9
  generalize H1 = H at hP hS ⊢
  have hP : va_P (dC, dI) vwCl [(q_this, .inr (12, [.ref q_town, .ref q_read, .ref q_now, .ref q_aside, .ref q_past, .int v_undos, .ref q_images, .ref q_kept, .long v_seed, .ref q_text, .int v_size, .int v_fault, .ref q_sights, .int v_sightMany, .ref q_book, .int v_bookMany, .int o0, .int o0, .int v_sign, .int v_figures, .int v_value, .int v_wrong, .ref q_went, .ref q_free, .ref q_stands])), (q_text, .inl (cI, 200, .inl v_text))] H := hP
  have hD : va_D A [(q_this, .inr (12, [.ref q_town, .ref q_read, .ref q_now, .ref q_aside, .ref q_past, .int v_undos, .ref q_images, .ref q_kept, .long v_seed, .ref q_text, .int v_size, .int v_fault, .ref q_sights, .int v_sightMany, .ref q_book, .int v_bookMany, .int o0, .int o0, .int v_sign, .int v_figures, .int v_value, .int v_wrong, .ref q_went, .ref q_free, .ref q_stands])), (q_text, .inl (cI, 200, .inl v_text))] := hD
  refine va_put (D := (dC, dI)) (ci := 12) (v := .int y32) (ty := .int) (C := RX12) (T := TX12) (N := 25) hx hb hts hiX12 tyX12 tyX12_ok nmX12 hown hK hP hD hS 0 rfl rfl 18 (by decide) hk84 (fun _ h9 => h9) rfl (by decide +kernel) rfl rfl (Nat.le_of_ble_eq_true rfl) dX12_step_35 (fun H locs hP hD hS => ?_)
  have hP : va_P (dC, dI) vwCl [(q_this, .inr (12, [.ref q_town, .ref q_read, .ref q_now, .ref q_aside, .ref q_past, .int v_undos, .ref q_images, .ref q_kept, .long v_seed, .ref q_text, .int v_size, .int v_fault, .ref q_sights, .int v_sightMany, .ref q_book, .int v_bookMany, .int o0, .int o0, .int y32, .int v_figures, .int v_value, .int v_wrong, .ref q_went, .ref q_free, .ref q_stands])), (q_text, .inl (cI, 200, .inl v_text))] H := hP
  have hD : va_D A [(q_this, .inr (12, [.ref q_town, .ref q_read, .ref q_now, .ref q_aside, .ref q_past, .int v_undos, .ref q_images, .ref q_kept, .long v_seed, .ref q_text, .int v_size, .int v_fault, .ref q_sights, .int v_sightMany, .ref q_book, .int v_bookMany, .int o0, .int o0, .int y32, .int v_figures, .int v_value, .int v_wrong, .ref q_went, .ref q_free, .ref q_stands])), (q_text, .inl (cI, 200, .inl v_text))] := hD
  refine lv_aload_n hx hb dX12_step_38 rfl (lv_at hl 0 rfl) ?_
  refine lv_iconst (v := 0) hx hb dX12_step_39 (by decide) ?_
  refine va_put (D := (dC, dI)) (ci := 12) (v := .int 0) (ty := .int) (C := RX12) (T := TX12) (N := 25) hx hb hts hiX12 tyX12 tyX12_ok nmX12 hown hK hP hD hS 0 rfl rfl 19 (by decide) hk87 (fun _ h9 => h9) rfl (by decide +kernel) rfl rfl (Nat.le_of_ble_eq_true rfl) dX12_step_40 (fun H locs hP hD hS => ?_)
  have hP : va_P (dC, dI) vwCl [(q_this, .inr (12, [.ref q_town, .ref q_read, .ref q_now, .ref q_aside, .ref q_past, .int v_undos, .ref q_images, .ref q_kept, .long v_seed, .ref q_text, .int v_size, .int v_fault, .ref q_sights, .int v_sightMany, .ref q_book, .int v_bookMany, .int o0, .int o0, .int y32, .int 0, .int v_value, .int v_wrong, .ref q_went, .ref q_free, .ref q_stands])), (q_text, .inl (cI, 200, .inl v_text))] H := hP
  have hD : va_D A [(q_this, .inr (12, [.ref q_town, .ref q_read, .ref q_now, .ref q_aside, .ref q_past, .int v_undos, .ref q_images, .ref q_kept, .long v_seed, .ref q_text, .int v_size, .int v_fault, .ref q_sights, .int v_sightMany, .ref q_book, .int v_bookMany, .int o0, .int o0, .int y32, .int 0, .int v_value, .int v_wrong, .ref q_went, .ref q_free, .ref q_stands])), (q_text, .inl (cI, 200, .inl v_text))] := hD
  refine lv_aload_n hx hb dX12_step_43 rfl (lv_at hl 0 rfl) ?_
  refine lv_iconst (v := 0) hx hb dX12_step_44 (by decide) ?_
  refine va_put (D := (dC, dI)) (ci := 12) (v := .int 0) (ty := .int) (C := RX12) (T := TX12) (N := 25) hx hb hts hiX12 tyX12 tyX12_ok nmX12 hown hK hP hD hS 0 rfl rfl 20 (by decide) hk90 (fun _ h9 => h9) rfl (by decide +kernel) rfl rfl (Nat.le_of_ble_eq_true rfl) dX12_step_45 (fun H locs hP hD hS => ?_)
  have hP : va_P (dC, dI) vwCl [(q_this, .inr (12, [.ref q_town, .ref q_read, .ref q_now, .ref q_aside, .ref q_past, .int v_undos, .ref q_images, .ref q_kept, .long v_seed, .ref q_text, .int v_size, .int v_fault, .ref q_sights, .int v_sightMany, .ref q_book, .int v_bookMany, .int o0, .int o0, .int y32, .int 0, .int 0, .int v_wrong, .ref q_went, .ref q_free, .ref q_stands])), (q_text, .inl (cI, 200, .inl v_text))] H := hP
  have hD : va_D A [(q_this, .inr (12, [.ref q_town, .ref q_read, .ref q_now, .ref q_aside, .ref q_past, .int v_undos, .ref q_images, .ref q_kept, .long v_seed, .ref q_text, .int v_size, .int v_fault, .ref q_sights, .int v_sightMany, .ref q_book, .int v_bookMany, .int o0, .int o0, .int y32, .int 0, .int 0, .int v_wrong, .ref q_went, .ref q_free, .ref q_stands])), (q_text, .inl (cI, 200, .inl v_text))] := hD
  refine lv_aload_n hx hb dX12_step_48 rfl (lv_at hl 0 rfl) ?_
  refine va_get (D := (dC, dI)) (ci := 12) (v := .int y32) (C := RX12) (T := TX12) (N := 25) hx hb hts hiX12 hown hK hP 0 rfl rfl 18 (by decide) hk84 (fun _ h9 => h9) rfl dX12_step_49 ?_
  refine lv_i2l hx hb dX12_step_52 rfl ?_
  refine lv_ldc2 hx hb hown hk93 dX12_step_53 ?_
  refine lv_ldc2 hx hb hown hk95 dX12_step_56 ?_
  obtain ⟨y59, hc59, hrun⟩ := oz_bind hrun
  have hPc := hP.sub (ws' := []) [] rfl
  have hDc := hD.sub (ws' := []) [] (by decide) rfl
  have hFc := va_free (wc := []) hD hS hA [] rfl
  refine va_calli (va_runS (As := [.long (Int32.toInt64 y32), .long (48 : Int64), .long (57 : Int64)]) (rest := []) ⟨hx, hb, hml, hown, hts⟩ (tX12_in l dC dI cI cZ H.size (Int32.toInt64 y32) (48 : Int64) (57 : Int64) y59 hc59) (va_cwS 3 hts gX12_step_X12_in rfl rfl rfl (by decide +kernel) ⟨Nat.le_of_ble_eq_true rfl, Nat.le_of_ble_eq_true rfl⟩) ⟨fun a U g mk q => by obtain ⟨q0, q1, qP, qK, qD⟩ := q; exact ⟨q0, q1, qP, va_K.moved (u := U) (U := U.calling g mk a) (Vm.Alike.refl U.vm) qK, qD⟩, fun U hU hW => ⟨rfl, by rw [hU], by rw [hU]; exact hPc, va_K.moved hW.alike hK, hDc.weaken (fun _ _ _ _ => trivial)⟩⟩ rfl rfl hl.1 rfl (lv_room (Nat.le_of_ble_eq_true rfl)) dX12_step_59 ⟨Nat.le_of_ble_eq_true rfl, Nat.le_of_ble_eq_true rfl⟩) hS (fun q _ h => hFc q h) hFc (fun r59 u9 t9 H1 locs ht9 hvm9 hw9 hB9 hz9 hkk9 hS => ?_)
  have hw9 : y59 = r59 := hw9.symm
  subst hw9
  obtain ⟨hP9, hK9, hD9⟩ := hB9
  rw [ht9] at hP9
  obtain ⟨hP, hD⟩ := va_join (wr := [(q_this, .inr (12, [.ref q_town, .ref q_read, .ref q_now, .ref q_aside, .ref q_past, .int v_undos, .ref q_images, .ref q_kept, .long v_seed, .ref q_text, .int v_size, .int v_fault, .ref q_sights, .int v_sightMany, .ref q_book, .int v_bookMany, .int o0, .int o0, .int y32, .int 0, .int 0, .int v_wrong, .ref q_went, .ref q_free, .ref q_stands])), (q_text, .inl (cI, 200, .inl v_text))]) (w1 := []) hP hD [] [0, 1] rfl rfl (by decide) (by decide) hkk9 hFc hP9 hD9
  generalize H1 = H at hP hS ⊢
  have hP : va_P (dC, dI) vwCl [(q_this, .inr (12, [.ref q_town, .ref q_read, .ref q_now, .ref q_aside, .ref q_past, .int v_undos, .ref q_images, .ref q_kept, .long v_seed, .ref q_text, .int v_size, .int v_fault, .ref q_sights, .int v_sightMany, .ref q_book, .int v_bookMany, .int o0, .int o0, .int y32, .int 0, .int 0, .int v_wrong, .ref q_went, .ref q_free, .ref q_stands])), (q_text, .inl (cI, 200, .inl v_text))] H := hP
  have hD : va_D A [(q_this, .inr (12, [.ref q_town, .ref q_read, .ref q_now, .ref q_aside, .ref q_past, .int v_undos, .ref q_images, .ref q_kept, .long v_seed, .ref q_text, .int v_size, .int v_fault, .ref q_sights, .int v_sightMany, .ref q_book, .int v_bookMany, .int o0, .int o0, .int y32, .int 0, .int 0, .int v_wrong, .ref q_went, .ref q_free, .ref q_stands])), (q_text, .inl (cI, 200, .inl v_text))] := hD
  refine lv_if_ne (tgt := 87) hx hb dX12_step_62 (by decide) (fun c2 => ?_) (fun c2 => ?_)
  · have hrun := oz_f hrun c2
    refine lv_aload_n hx hb dX12_step_87 rfl (lv_at hl 0 rfl) ?_
    refine lv_bipush (v := 48) hx hb dX12_step_88 (by decide) ?_
    refine va_put (D := (dC, dI)) (ci := 12) (v := .int 48) (ty := .int) (C := RX12) (T := TX12) (N := 25) hx hb hts hiX12 tyX12 tyX12_ok nmX12 hown hK hP hD hS 0 rfl rfl 18 (by decide) hk84 (fun _ h9 => h9) rfl (by decide +kernel) rfl rfl (Nat.le_of_ble_eq_true rfl) dX12_step_90 (fun H locs hP hD hS => ?_)
    have hP : va_P (dC, dI) vwCl [(q_this, .inr (12, [.ref q_town, .ref q_read, .ref q_now, .ref q_aside, .ref q_past, .int v_undos, .ref q_images, .ref q_kept, .long v_seed, .ref q_text, .int v_size, .int v_fault, .ref q_sights, .int v_sightMany, .ref q_book, .int v_bookMany, .int o0, .int o0, .int 48, .int 0, .int 0, .int v_wrong, .ref q_went, .ref q_free, .ref q_stands])), (q_text, .inl (cI, 200, .inl v_text))] H := hP
    have hD : va_D A [(q_this, .inr (12, [.ref q_town, .ref q_read, .ref q_now, .ref q_aside, .ref q_past, .int v_undos, .ref q_images, .ref q_kept, .long v_seed, .ref q_text, .int v_size, .int v_fault, .ref q_sights, .int v_sightMany, .ref q_book, .int v_bookMany, .int o0, .int o0, .int 48, .int 0, .int 0, .int v_wrong, .ref q_went, .ref q_free, .ref q_stands])), (q_text, .inl (cI, 200, .inl v_text))] := hD
    obtain ⟨o93, hlp93, hrun⟩ := oz_bind hrun
    have hL93 : ∀ (n : Nat) (w93 : Int32 × Int32 × Int32) (o93 : Int32 × Int32 × Int32), oz_loop (fX12_step_b93 v_size v_text) n w93 = some o93 → (∀ (H : Heap) (locs : List Loc) (ls : Array Slot), va_P (dC, dI) vwCl [(q_this, .inr (12, [.ref q_town, .ref q_read, .ref q_now, .ref q_aside, .ref q_past, .int v_undos, .ref q_images, .ref q_kept, .long v_seed, .ref q_text, .int v_size, .int v_fault, .ref q_sights, .int v_sightMany, .ref q_book, .int v_bookMany, .int o93.1, .int o0, .int 48, .int o93.2.1, .int o93.2.2, .int v_wrong, .ref q_went, .ref q_free, .ref q_stands])), (q_text, .inl (cI, 200, .inl v_text))] H → va_D A [(q_this, .inr (12, [.ref q_town, .ref q_read, .ref q_now, .ref q_aside, .ref q_past, .int v_undos, .ref q_images, .ref q_kept, .long v_seed, .ref q_text, .int v_size, .int v_fault, .ref q_sights, .int v_sightMany, .ref q_book, .int v_bookMany, .int o93.1, .int o0, .int 48, .int o93.2.1, .int o93.2.2, .int v_wrong, .ref q_went, .ref q_free, .ref q_stands])), (q_text, .inl (cI, 200, .inl v_text))] → va_S A s.heap H locs → lv_has ls 1 [(0, .ref q_this)] → W p l e (headSpec wsX12_step rmX12_step).room s m (([.ref q_this] : List Value).toArray) below meth c H locs 0 0 Q (F0 m 167 ls [])) → ∀ (H : Heap) (locs : List Loc) (ls : Array Slot), va_P (dC, dI) vwCl [(q_this, .inr (12, [.ref q_town, .ref q_read, .ref q_now, .ref q_aside, .ref q_past, .int v_undos, .ref q_images, .ref q_kept, .long v_seed, .ref q_text, .int v_size, .int v_fault, .ref q_sights, .int v_sightMany, .ref q_book, .int v_bookMany, .int w93.1, .int o0, .int 48, .int w93.2.1, .int w93.2.2, .int v_wrong, .ref q_went, .ref q_free, .ref q_stands])), (q_text, .inl (cI, 200, .inl v_text))] H → va_D A [(q_this, .inr (12, [.ref q_town, .ref q_read, .ref q_now, .ref q_aside, .ref q_past, .int v_undos, .ref q_images, .ref q_kept, .long v_seed, .ref q_text, .int v_size, .int v_fault, .ref q_sights, .int v_sightMany, .ref q_book, .int v_bookMany, .int w93.1, .int o0, .int 48, .int w93.2.1, .int w93.2.2, .int v_wrong, .ref q_went, .ref q_free, .ref q_stands])), (q_text, .inl (cI, 200, .inl v_text))] → va_S A s.heap H locs → lv_has ls 1 [(0, .ref q_this)] → W p l e (headSpec wsX12_step rmX12_step).room s m (([.ref q_this] : List Value).toArray) below meth c H locs 0 0 Q (F0 m 93 ls []) := by
      intro n
      induction n with
      | zero => intro w93 o93 h9; exact (oz_zero h9).elim
      | succ n ih =>
        intro w93 o93 h9 hexit H locs ls hP hD hS hl
        obtain ⟨r9, hrun, hnext⟩ := oz_step h9
        unfold fX12_step_b93 at hrun
        refine lv_aload_n hx hb dX12_step_93 rfl (lv_at hl 0 rfl) ?_
        obtain ⟨y94, hc94, hrun⟩ := oz_bind hrun
        have hPc := hP.sub (ws' := [(q_this, .inr (12, [.ref q_town, .ref q_read, .ref q_now, .ref q_aside, .ref q_past, .int v_undos, .ref q_images, .ref q_kept, .long v_seed, .ref q_text, .int v_size, .int v_fault, .ref q_sights, .int v_sightMany, .ref q_book, .int v_bookMany, .int w93.1, .int o0, .int 48, .int w93.2.1, .int w93.2.2, .int v_wrong, .ref q_went, .ref q_free, .ref q_stands])), (q_text, .inl (cI, 200, .inl v_text))]) [0, 1] rfl
        have hDc := hD.sub (ws' := [(q_this, .inr (12, [.ref q_town, .ref q_read, .ref q_now, .ref q_aside, .ref q_past, .int v_undos, .ref q_images, .ref q_kept, .long v_seed, .ref q_text, .int v_size, .int v_fault, .ref q_sights, .int v_sightMany, .ref q_book, .int v_bookMany, .int w93.1, .int o0, .int 48, .int w93.2.1, .int w93.2.2, .int v_wrong, .ref q_went, .ref q_free, .ref q_stands])), (q_text, .inl (cI, 200, .inl v_text))]) [0, 1] (by decide) rfl
        have hFc := va_free (wc := [(q_this, .inr (12, [.ref q_town, .ref q_read, .ref q_now, .ref q_aside, .ref q_past, .int v_undos, .ref q_images, .ref q_kept, .long v_seed, .ref q_text, .int v_size, .int v_fault, .ref q_sights, .int v_sightMany, .ref q_book, .int v_bookMany, .int w93.1, .int o0, .int 48, .int w93.2.1, .int w93.2.2, .int v_wrong, .ref q_went, .ref q_free, .ref q_stands])), (q_text, .inl (cI, 200, .inl v_text))]) hD hS hA [0, 1] rfl
        refine va_calli (va_runV (As := []) (rest := []) ⟨hx, hb, hml, hown, hts⟩ (tX12_here l dC dI cI cZ q_aside q_book q_free q_images q_kept q_now q_past q_read q_sights q_stands q_text q_this q_town q_went H.size v_undos v_seed v_fault v_sightMany v_bookMany o0 48 w93.2.1 w93.2.2 v_wrong v_size w93.1 v_text y94 hc94) (cwV 0 hts gX12_step_X12_here rfl rfl rfl (by decide +kernel) ⟨Nat.le_of_ble_eq_true rfl, Nat.le_of_ble_eq_true rfl⟩) ⟨fun a U g mk q => by obtain ⟨q0, q1, qP, qK, qD⟩ := q; exact ⟨q0, q1, qP, va_K.moved (u := U) (U := U.calling g mk a) (Vm.Alike.refl U.vm) qK, qD⟩, va_recv hK hPc (ci := 12) (q0 := 0) rfl rfl, fun U hU hW => ⟨rfl, by rw [hU], by rw [hU]; exact hPc, va_K.moved hW.alike hK, hDc.weaken (fun _ _ _ _ => trivial)⟩⟩ rfl rfl hl.1 rfl (lv_room (Nat.le_of_ble_eq_true rfl)) dX12_step_94 ⟨Nat.le_of_ble_eq_true rfl, Nat.le_of_ble_eq_true rfl⟩) hS (fun q _ h => hFc q h) hFc (fun r94 u9 t9 H1 locs ht9 hvm9 hw9 hB9 hz9 hkk9 hS => ?_)
        have hw9 : y94 = r94 := hw9.symm
        subst hw9
        obtain ⟨hP9, hK9, hD9⟩ := hB9
        rw [ht9] at hP9
        obtain ⟨hP, hD⟩ := va_join (wr := []) (w1 := [(q_this, .inr (12, [.ref q_town, .ref q_read, .ref q_now, .ref q_aside, .ref q_past, .int v_undos, .ref q_images, .ref q_kept, .long v_seed, .ref q_text, .int v_size, .int v_fault, .ref q_sights, .int v_sightMany, .ref q_book, .int v_bookMany, .int w93.1, .int o0, .int 48, .int w93.2.1, .int w93.2.2, .int v_wrong, .ref q_went, .ref q_free, .ref q_stands])), (q_text, .inl (cI, 200, .inl v_text))]) hP hD [0, 1] [] rfl rfl (by decide) (by decide) hkk9 hFc hP9 hD9
        generalize H1 = H at hP hS ⊢
        have hP : va_P (dC, dI) vwCl [(q_this, .inr (12, [.ref q_town, .ref q_read, .ref q_now, .ref q_aside, .ref q_past, .int v_undos, .ref q_images, .ref q_kept, .long v_seed, .ref q_text, .int v_size, .int v_fault, .ref q_sights, .int v_sightMany, .ref q_book, .int v_bookMany, .int w93.1, .int o0, .int 48, .int w93.2.1, .int w93.2.2, .int v_wrong, .ref q_went, .ref q_free, .ref q_stands])), (q_text, .inl (cI, 200, .inl v_text))] H := hP
        have hD : va_D A [(q_this, .inr (12, [.ref q_town, .ref q_read, .ref q_now, .ref q_aside, .ref q_past, .int v_undos, .ref q_images, .ref q_kept, .long v_seed, .ref q_text, .int v_size, .int v_fault, .ref q_sights, .int v_sightMany, .ref q_book, .int v_bookMany, .int w93.1, .int o0, .int 48, .int w93.2.1, .int w93.2.2, .int v_wrong, .ref q_went, .ref q_free, .ref q_stands])), (q_text, .inl (cI, 200, .inl v_text))] := hD
        refine lv_i2l hx hb dX12_step_97 rfl ?_
        refine lv_ldc2 hx hb hown hk93 dX12_step_98 ?_
        refine lv_ldc2 hx hb hown hk95 dX12_step_101 ?_
        obtain ⟨y104, hc104, hrun⟩ := oz_bind hrun
        have hPc := hP.sub (ws' := []) [] rfl
        have hDc := hD.sub (ws' := []) [] (by decide) rfl
        have hFc := va_free (wc := []) hD hS hA [] rfl
        refine va_calli (va_runS (As := [.long (Int32.toInt64 y94), .long (48 : Int64), .long (57 : Int64)]) (rest := []) ⟨hx, hb, hml, hown, hts⟩ (tX12_in l dC dI cI cZ H.size (Int32.toInt64 y94) (48 : Int64) (57 : Int64) y104 hc104) (va_cwS 3 hts gX12_step_X12_in rfl rfl rfl (by decide +kernel) ⟨Nat.le_of_ble_eq_true rfl, Nat.le_of_ble_eq_true rfl⟩) ⟨fun a U g mk q => by obtain ⟨q0, q1, qP, qK, qD⟩ := q; exact ⟨q0, q1, qP, va_K.moved (u := U) (U := U.calling g mk a) (Vm.Alike.refl U.vm) qK, qD⟩, fun U hU hW => ⟨rfl, by rw [hU], by rw [hU]; exact hPc, va_K.moved hW.alike hK, hDc.weaken (fun _ _ _ _ => trivial)⟩⟩ rfl rfl hl.1 rfl (lv_room (Nat.le_of_ble_eq_true rfl)) dX12_step_104 ⟨Nat.le_of_ble_eq_true rfl, Nat.le_of_ble_eq_true rfl⟩) hS (fun q _ h => hFc q h) hFc (fun r104 u9 t9 H1 locs ht9 hvm9 hw9 hB9 hz9 hkk9 hS => ?_)
        have hw9 : y104 = r104 := hw9.symm
        subst hw9
        obtain ⟨hP9, hK9, hD9⟩ := hB9
        rw [ht9] at hP9
        obtain ⟨hP, hD⟩ := va_join (wr := [(q_this, .inr (12, [.ref q_town, .ref q_read, .ref q_now, .ref q_aside, .ref q_past, .int v_undos, .ref q_images, .ref q_kept, .long v_seed, .ref q_text, .int v_size, .int v_fault, .ref q_sights, .int v_sightMany, .ref q_book, .int v_bookMany, .int w93.1, .int o0, .int 48, .int w93.2.1, .int w93.2.2, .int v_wrong, .ref q_went, .ref q_free, .ref q_stands])), (q_text, .inl (cI, 200, .inl v_text))]) (w1 := []) hP hD [] [0, 1] rfl rfl (by decide) (by decide) hkk9 hFc hP9 hD9
        generalize H1 = H at hP hS ⊢
        have hP : va_P (dC, dI) vwCl [(q_this, .inr (12, [.ref q_town, .ref q_read, .ref q_now, .ref q_aside, .ref q_past, .int v_undos, .ref q_images, .ref q_kept, .long v_seed, .ref q_text, .int v_size, .int v_fault, .ref q_sights, .int v_sightMany, .ref q_book, .int v_bookMany, .int w93.1, .int o0, .int 48, .int w93.2.1, .int w93.2.2, .int v_wrong, .ref q_went, .ref q_free, .ref q_stands])), (q_text, .inl (cI, 200, .inl v_text))] H := hP
        have hD : va_D A [(q_this, .inr (12, [.ref q_town, .ref q_read, .ref q_now, .ref q_aside, .ref q_past, .int v_undos, .ref q_images, .ref q_kept, .long v_seed, .ref q_text, .int v_size, .int v_fault, .ref q_sights, .int v_sightMany, .ref q_book, .int v_bookMany, .int w93.1, .int o0, .int 48, .int w93.2.1, .int w93.2.2, .int v_wrong, .ref q_went, .ref q_free, .ref q_stands])), (q_text, .inl (cI, 200, .inl v_text))] := hD
        refine lv_if_eq (tgt := 167) hx hb dX12_step_107 (by decide) (fun c3 => ?_) (fun c3 => ?_)
        · have hrun := oz_t hrun c3
          have hr9 := Option.some.inj hrun
          subst hr9
          have ho9 : (w93.1, w93.2.1, w93.2.2) = o93 := hnext
          subst ho9
          exact hexit _ _ _ (hP.sub [0, 1] rfl) (hD.sub [0, 1] (by decide) rfl) hS (lv_sub hl [0] rfl)
        · have hrun := oz_f hrun c3
          refine lv_aload_n hx hb dX12_step_110 rfl (lv_at hl 0 rfl) ?_
          refine lv_aload_n hx hb dX12_step_111 rfl (lv_at hl 0 rfl) ?_
          refine va_get (D := (dC, dI)) (ci := 12) (v := .int w93.2.1) (C := RX12) (T := TX12) (N := 25) hx hb hts hiX12 hown hK hP 0 rfl rfl 19 (by decide) hk87 (fun _ h9 => h9) rfl dX12_step_112 ?_
          refine lv_iconst (v := 3) hx hb dX12_step_115 (by decide) ?_
          refine lv_icmp_ge (tgt := 137) hx hb dX12_step_116 (by decide) (fun c4 => ?_) (fun c4 => ?_)
          · have hrun := oz_t hrun c4
            refine lv_aload_n hx hb dX12_step_137 rfl (lv_at hl 0 rfl) ?_
            refine va_get (D := (dC, dI)) (ci := 12) (v := .int w93.2.2) (C := RX12) (T := TX12) (N := 25) hx hb hts hiX12 hown hK hP 0 rfl rfl 20 (by decide) hk90 (fun _ h9 => h9) rfl dX12_step_138 ?_
            refine va_put (D := (dC, dI)) (ci := 12) (v := .int w93.2.2) (ty := .int) (C := RX12) (T := TX12) (N := 25) hx hb hts hiX12 tyX12 tyX12_ok nmX12 hown hK hP hD hS 0 rfl rfl 20 (by decide) hk90 (fun _ h9 => h9) rfl (by decide +kernel) rfl rfl (Nat.le_of_ble_eq_true rfl) dX12_step_141 (fun H locs hP hD hS => ?_)
            have hP : va_P (dC, dI) vwCl [(q_this, .inr (12, [.ref q_town, .ref q_read, .ref q_now, .ref q_aside, .ref q_past, .int v_undos, .ref q_images, .ref q_kept, .long v_seed, .ref q_text, .int v_size, .int v_fault, .ref q_sights, .int v_sightMany, .ref q_book, .int v_bookMany, .int w93.1, .int o0, .int 48, .int w93.2.1, .int w93.2.2, .int v_wrong, .ref q_went, .ref q_free, .ref q_stands])), (q_text, .inl (cI, 200, .inl v_text))] H := hP
            have hD : va_D A [(q_this, .inr (12, [.ref q_town, .ref q_read, .ref q_now, .ref q_aside, .ref q_past, .int v_undos, .ref q_images, .ref q_kept, .long v_seed, .ref q_text, .int v_size, .int v_fault, .ref q_sights, .int v_sightMany, .ref q_book, .int v_bookMany, .int w93.1, .int o0, .int 48, .int w93.2.1, .int w93.2.2, .int v_wrong, .ref q_went, .ref q_free, .ref q_stands])), (q_text, .inl (cI, 200, .inl v_text))] := hD
            refine lv_aload_n hx hb dX12_step_144 rfl (lv_at hl 0 rfl) ?_
            refine lv_dup hx hb dX12_step_145 rfl ?_
            refine va_get (D := (dC, dI)) (ci := 12) (v := .int w93.2.1) (C := RX12) (T := TX12) (N := 25) hx hb hts hiX12 hown hK hP 0 rfl rfl 19 (by decide) hk87 (fun _ h9 => h9) rfl dX12_step_146 ?_
            refine lv_iconst (v := 1) hx hb dX12_step_149 (by decide) ?_
            refine lv_iadd hx hb dX12_step_150 ?_
            refine va_put (D := (dC, dI)) (ci := 12) (v := .int (w93.2.1 + 1)) (ty := .int) (C := RX12) (T := TX12) (N := 25) hx hb hts hiX12 tyX12 tyX12_ok nmX12 hown hK hP hD hS 0 rfl rfl 19 (by decide) hk87 (fun _ h9 => h9) rfl (by decide +kernel) rfl rfl (Nat.le_of_ble_eq_true rfl) dX12_step_151 (fun H locs hP hD hS => ?_)
            have hP : va_P (dC, dI) vwCl [(q_this, .inr (12, [.ref q_town, .ref q_read, .ref q_now, .ref q_aside, .ref q_past, .int v_undos, .ref q_images, .ref q_kept, .long v_seed, .ref q_text, .int v_size, .int v_fault, .ref q_sights, .int v_sightMany, .ref q_book, .int v_bookMany, .int w93.1, .int o0, .int 48, .int (w93.2.1 + 1), .int w93.2.2, .int v_wrong, .ref q_went, .ref q_free, .ref q_stands])), (q_text, .inl (cI, 200, .inl v_text))] H := hP
            have hD : va_D A [(q_this, .inr (12, [.ref q_town, .ref q_read, .ref q_now, .ref q_aside, .ref q_past, .int v_undos, .ref q_images, .ref q_kept, .long v_seed, .ref q_text, .int v_size, .int v_fault, .ref q_sights, .int v_sightMany, .ref q_book, .int v_bookMany, .int w93.1, .int o0, .int 48, .int (w93.2.1 + 1), .int w93.2.2, .int v_wrong, .ref q_went, .ref q_free, .ref q_stands])), (q_text, .inl (cI, 200, .inl v_text))] := hD
            refine lv_aload_n hx hb dX12_step_154 rfl (lv_at hl 0 rfl) ?_
            refine lv_dup hx hb dX12_step_155 rfl ?_
            refine va_get (D := (dC, dI)) (ci := 12) (v := .int w93.1) (C := RX12) (T := TX12) (N := 25) hx hb hts hiX12 hown hK hP 0 rfl rfl 16 (by decide) hk74 (fun _ h9 => h9) rfl dX12_step_156 ?_
            refine lv_iconst (v := 1) hx hb dX12_step_159 (by decide) ?_
            refine lv_iadd hx hb dX12_step_160 ?_
            refine va_put (D := (dC, dI)) (ci := 12) (v := .int (w93.1 + 1)) (ty := .int) (C := RX12) (T := TX12) (N := 25) hx hb hts hiX12 tyX12 tyX12_ok nmX12 hown hK hP hD hS 0 rfl rfl 16 (by decide) hk74 (fun _ h9 => h9) rfl (by decide +kernel) rfl rfl (Nat.le_of_ble_eq_true rfl) dX12_step_161 (fun H locs hP hD hS => ?_)
            have hP : va_P (dC, dI) vwCl [(q_this, .inr (12, [.ref q_town, .ref q_read, .ref q_now, .ref q_aside, .ref q_past, .int v_undos, .ref q_images, .ref q_kept, .long v_seed, .ref q_text, .int v_size, .int v_fault, .ref q_sights, .int v_sightMany, .ref q_book, .int v_bookMany, .int (w93.1 + 1), .int o0, .int 48, .int (w93.2.1 + 1), .int w93.2.2, .int v_wrong, .ref q_went, .ref q_free, .ref q_stands])), (q_text, .inl (cI, 200, .inl v_text))] H := hP
            have hD : va_D A [(q_this, .inr (12, [.ref q_town, .ref q_read, .ref q_now, .ref q_aside, .ref q_past, .int v_undos, .ref q_images, .ref q_kept, .long v_seed, .ref q_text, .int v_size, .int v_fault, .ref q_sights, .int v_sightMany, .ref q_book, .int v_bookMany, .int (w93.1 + 1), .int o0, .int 48, .int (w93.2.1 + 1), .int w93.2.2, .int v_wrong, .ref q_went, .ref q_free, .ref q_stands])), (q_text, .inl (cI, 200, .inl v_text))] := hD
            refine lv_goto (tgt := 93) hx hb dX12_step_164 (by decide) ?_
            have hr9 := Option.some.inj hrun
            subst hr9
            exact ih ((w93.1 + 1), (w93.2.1 + 1), w93.2.2) _ hnext hexit _ _ _ (hP.sub [0, 1] rfl) (hD.sub [0, 1] (by decide) rfl) hS (lv_sub hl [0] rfl)
          · have hrun := oz_f hrun c4
            refine lv_bipush (v := 10) hx hb dX12_step_119 (by decide) ?_
            refine lv_aload_n hx hb dX12_step_121 rfl (lv_at hl 0 rfl) ?_
            refine va_get (D := (dC, dI)) (ci := 12) (v := .int w93.2.2) (C := RX12) (T := TX12) (N := 25) hx hb hts hiX12 hown hK hP 0 rfl rfl 20 (by decide) hk90 (fun _ h9 => h9) rfl dX12_step_122 ?_
            refine lv_imul hx hb dX12_step_125 ?_
            refine lv_aload_n hx hb dX12_step_126 rfl (lv_at hl 0 rfl) ?_
            obtain ⟨y127, hc127, hrun⟩ := oz_bind hrun
            have hPc := hP.sub (ws' := [(q_this, .inr (12, [.ref q_town, .ref q_read, .ref q_now, .ref q_aside, .ref q_past, .int v_undos, .ref q_images, .ref q_kept, .long v_seed, .ref q_text, .int v_size, .int v_fault, .ref q_sights, .int v_sightMany, .ref q_book, .int v_bookMany, .int w93.1, .int o0, .int 48, .int w93.2.1, .int w93.2.2, .int v_wrong, .ref q_went, .ref q_free, .ref q_stands])), (q_text, .inl (cI, 200, .inl v_text))]) [0, 1] rfl
            have hDc := hD.sub (ws' := [(q_this, .inr (12, [.ref q_town, .ref q_read, .ref q_now, .ref q_aside, .ref q_past, .int v_undos, .ref q_images, .ref q_kept, .long v_seed, .ref q_text, .int v_size, .int v_fault, .ref q_sights, .int v_sightMany, .ref q_book, .int v_bookMany, .int w93.1, .int o0, .int 48, .int w93.2.1, .int w93.2.2, .int v_wrong, .ref q_went, .ref q_free, .ref q_stands])), (q_text, .inl (cI, 200, .inl v_text))]) [0, 1] (by decide) rfl
            have hFc := va_free (wc := [(q_this, .inr (12, [.ref q_town, .ref q_read, .ref q_now, .ref q_aside, .ref q_past, .int v_undos, .ref q_images, .ref q_kept, .long v_seed, .ref q_text, .int v_size, .int v_fault, .ref q_sights, .int v_sightMany, .ref q_book, .int v_bookMany, .int w93.1, .int o0, .int 48, .int w93.2.1, .int w93.2.2, .int v_wrong, .ref q_went, .ref q_free, .ref q_stands])), (q_text, .inl (cI, 200, .inl v_text))]) hD hS hA [0, 1] rfl
            refine va_calli (va_runV (As := []) (rest := [.int (10 * w93.2.2), .ref q_this]) ⟨hx, hb, hml, hown, hts⟩ (tX12_here l dC dI cI cZ q_aside q_book q_free q_images q_kept q_now q_past q_read q_sights q_stands q_text q_this q_town q_went H.size v_undos v_seed v_fault v_sightMany v_bookMany o0 48 w93.2.1 w93.2.2 v_wrong v_size w93.1 v_text y127 hc127) (cwV 0 hts gX12_step_X12_here rfl rfl rfl (by decide +kernel) ⟨Nat.le_of_ble_eq_true rfl, Nat.le_of_ble_eq_true rfl⟩) ⟨fun a U g mk q => by obtain ⟨q0, q1, qP, qK, qD⟩ := q; exact ⟨q0, q1, qP, va_K.moved (u := U) (U := U.calling g mk a) (Vm.Alike.refl U.vm) qK, qD⟩, va_recv hK hPc (ci := 12) (q0 := 0) rfl rfl, fun U hU hW => ⟨rfl, by rw [hU], by rw [hU]; exact hPc, va_K.moved hW.alike hK, hDc.weaken (fun _ _ _ _ => trivial)⟩⟩ rfl rfl hl.1 rfl (lv_room (Nat.le_of_ble_eq_true rfl)) dX12_step_127 ⟨Nat.le_of_ble_eq_true rfl, Nat.le_of_ble_eq_true rfl⟩) hS (fun q _ h => hFc q h) hFc (fun r127 u9 t9 H1 locs ht9 hvm9 hw9 hB9 hz9 hkk9 hS => ?_)
            have hw9 : y127 = r127 := hw9.symm
            subst hw9
            obtain ⟨hP9, hK9, hD9⟩ := hB9
            rw [ht9] at hP9
            obtain ⟨hP, hD⟩ := va_join (wr := []) (w1 := [(q_this, .inr (12, [.ref q_town, .ref q_read, .ref q_now, .ref q_aside, .ref q_past, .int v_undos, .ref q_images, .ref q_kept, .long v_seed, .ref q_text, .int v_size, .int v_fault, .ref q_sights, .int v_sightMany, .ref q_book, .int v_bookMany, .int w93.1, .int o0, .int 48, .int w93.2.1, .int w93.2.2, .int v_wrong, .ref q_went, .ref q_free, .ref q_stands])), (q_text, .inl (cI, 200, .inl v_text))]) hP hD [0, 1] [] rfl rfl (by decide) (by decide) hkk9 hFc hP9 hD9
            generalize H1 = H at hP hS ⊢
            have hP : va_P (dC, dI) vwCl [(q_this, .inr (12, [.ref q_town, .ref q_read, .ref q_now, .ref q_aside, .ref q_past, .int v_undos, .ref q_images, .ref q_kept, .long v_seed, .ref q_text, .int v_size, .int v_fault, .ref q_sights, .int v_sightMany, .ref q_book, .int v_bookMany, .int w93.1, .int o0, .int 48, .int w93.2.1, .int w93.2.2, .int v_wrong, .ref q_went, .ref q_free, .ref q_stands])), (q_text, .inl (cI, 200, .inl v_text))] H := hP
            have hD : va_D A [(q_this, .inr (12, [.ref q_town, .ref q_read, .ref q_now, .ref q_aside, .ref q_past, .int v_undos, .ref q_images, .ref q_kept, .long v_seed, .ref q_text, .int v_size, .int v_fault, .ref q_sights, .int v_sightMany, .ref q_book, .int v_bookMany, .int w93.1, .int o0, .int 48, .int w93.2.1, .int w93.2.2, .int v_wrong, .ref q_went, .ref q_free, .ref q_stands])), (q_text, .inl (cI, 200, .inl v_text))] := hD
            refine lv_iadd hx hb dX12_step_130 ?_
            refine lv_bipush (v := 48) hx hb dX12_step_131 (by decide) ?_
            refine lv_isub hx hb dX12_step_133 ?_
            refine lv_goto (tgt := 141) hx hb dX12_step_134 (by decide) ?_
            refine va_put (D := (dC, dI)) (ci := 12) (v := .int (((10 * w93.2.2) + y127) - 48)) (ty := .int) (C := RX12) (T := TX12) (N := 25) hx hb hts hiX12 tyX12 tyX12_ok nmX12 hown hK hP hD hS 0 rfl rfl 20 (by decide) hk90 (fun _ h9 => h9) rfl (by decide +kernel) rfl rfl (Nat.le_of_ble_eq_true rfl) dX12_step_141 (fun H locs hP hD hS => ?_)
            have hP : va_P (dC, dI) vwCl [(q_this, .inr (12, [.ref q_town, .ref q_read, .ref q_now, .ref q_aside, .ref q_past, .int v_undos, .ref q_images, .ref q_kept, .long v_seed, .ref q_text, .int v_size, .int v_fault, .ref q_sights, .int v_sightMany, .ref q_book, .int v_bookMany, .int w93.1, .int o0, .int 48, .int w93.2.1, .int (((10 * w93.2.2) + y127) - 48), .int v_wrong, .ref q_went, .ref q_free, .ref q_stands])), (q_text, .inl (cI, 200, .inl v_text))] H := hP
            have hD : va_D A [(q_this, .inr (12, [.ref q_town, .ref q_read, .ref q_now, .ref q_aside, .ref q_past, .int v_undos, .ref q_images, .ref q_kept, .long v_seed, .ref q_text, .int v_size, .int v_fault, .ref q_sights, .int v_sightMany, .ref q_book, .int v_bookMany, .int w93.1, .int o0, .int 48, .int w93.2.1, .int (((10 * w93.2.2) + y127) - 48), .int v_wrong, .ref q_went, .ref q_free, .ref q_stands])), (q_text, .inl (cI, 200, .inl v_text))] := hD
            refine lv_aload_n hx hb dX12_step_144 rfl (lv_at hl 0 rfl) ?_
            refine lv_dup hx hb dX12_step_145 rfl ?_
            refine va_get (D := (dC, dI)) (ci := 12) (v := .int w93.2.1) (C := RX12) (T := TX12) (N := 25) hx hb hts hiX12 hown hK hP 0 rfl rfl 19 (by decide) hk87 (fun _ h9 => h9) rfl dX12_step_146 ?_
            refine lv_iconst (v := 1) hx hb dX12_step_149 (by decide) ?_
            refine lv_iadd hx hb dX12_step_150 ?_
            refine va_put (D := (dC, dI)) (ci := 12) (v := .int (w93.2.1 + 1)) (ty := .int) (C := RX12) (T := TX12) (N := 25) hx hb hts hiX12 tyX12 tyX12_ok nmX12 hown hK hP hD hS 0 rfl rfl 19 (by decide) hk87 (fun _ h9 => h9) rfl (by decide +kernel) rfl rfl (Nat.le_of_ble_eq_true rfl) dX12_step_151 (fun H locs hP hD hS => ?_)
            have hP : va_P (dC, dI) vwCl [(q_this, .inr (12, [.ref q_town, .ref q_read, .ref q_now, .ref q_aside, .ref q_past, .int v_undos, .ref q_images, .ref q_kept, .long v_seed, .ref q_text, .int v_size, .int v_fault, .ref q_sights, .int v_sightMany, .ref q_book, .int v_bookMany, .int w93.1, .int o0, .int 48, .int (w93.2.1 + 1), .int (((10 * w93.2.2) + y127) - 48), .int v_wrong, .ref q_went, .ref q_free, .ref q_stands])), (q_text, .inl (cI, 200, .inl v_text))] H := hP
            have hD : va_D A [(q_this, .inr (12, [.ref q_town, .ref q_read, .ref q_now, .ref q_aside, .ref q_past, .int v_undos, .ref q_images, .ref q_kept, .long v_seed, .ref q_text, .int v_size, .int v_fault, .ref q_sights, .int v_sightMany, .ref q_book, .int v_bookMany, .int w93.1, .int o0, .int 48, .int (w93.2.1 + 1), .int (((10 * w93.2.2) + y127) - 48), .int v_wrong, .ref q_went, .ref q_free, .ref q_stands])), (q_text, .inl (cI, 200, .inl v_text))] := hD
            refine lv_aload_n hx hb dX12_step_154 rfl (lv_at hl 0 rfl) ?_
            refine lv_dup hx hb dX12_step_155 rfl ?_
            refine va_get (D := (dC, dI)) (ci := 12) (v := .int w93.1) (C := RX12) (T := TX12) (N := 25) hx hb hts hiX12 hown hK hP 0 rfl rfl 16 (by decide) hk74 (fun _ h9 => h9) rfl dX12_step_156 ?_
            refine lv_iconst (v := 1) hx hb dX12_step_159 (by decide) ?_
            refine lv_iadd hx hb dX12_step_160 ?_
            refine va_put (D := (dC, dI)) (ci := 12) (v := .int (w93.1 + 1)) (ty := .int) (C := RX12) (T := TX12) (N := 25) hx hb hts hiX12 tyX12 tyX12_ok nmX12 hown hK hP hD hS 0 rfl rfl 16 (by decide) hk74 (fun _ h9 => h9) rfl (by decide +kernel) rfl rfl (Nat.le_of_ble_eq_true rfl) dX12_step_161 (fun H locs hP hD hS => ?_)
            have hP : va_P (dC, dI) vwCl [(q_this, .inr (12, [.ref q_town, .ref q_read, .ref q_now, .ref q_aside, .ref q_past, .int v_undos, .ref q_images, .ref q_kept, .long v_seed, .ref q_text, .int v_size, .int v_fault, .ref q_sights, .int v_sightMany, .ref q_book, .int v_bookMany, .int (w93.1 + 1), .int o0, .int 48, .int (w93.2.1 + 1), .int (((10 * w93.2.2) + y127) - 48), .int v_wrong, .ref q_went, .ref q_free, .ref q_stands])), (q_text, .inl (cI, 200, .inl v_text))] H := hP
            have hD : va_D A [(q_this, .inr (12, [.ref q_town, .ref q_read, .ref q_now, .ref q_aside, .ref q_past, .int v_undos, .ref q_images, .ref q_kept, .long v_seed, .ref q_text, .int v_size, .int v_fault, .ref q_sights, .int v_sightMany, .ref q_book, .int v_bookMany, .int (w93.1 + 1), .int o0, .int 48, .int (w93.2.1 + 1), .int (((10 * w93.2.2) + y127) - 48), .int v_wrong, .ref q_went, .ref q_free, .ref q_stands])), (q_text, .inl (cI, 200, .inl v_text))] := hD
            refine lv_goto (tgt := 93) hx hb dX12_step_164 (by decide) ?_
            have hr9 := Option.some.inj hrun
            subst hr9
            exact ih ((w93.1 + 1), (w93.2.1 + 1), (((10 * w93.2.2) + y127) - 48)) _ hnext hexit _ _ _ (hP.sub [0, 1] rfl) (hD.sub [0, 1] (by decide) rfl) hS (lv_sub hl [0] rfl)
    refine hL93 oz_fuel (o0, 0, 0) o93 hlp93 (fun H locs ls hP hD hS hl => ?_) _ _ _ (hP.sub [0, 1] rfl) (hD.sub [0, 1] (by decide) rfl) hS (lv_sub hl [0] rfl)
    have hP : va_P (dC, dI) vwCl [(q_this, .inr (12, [.ref q_town, .ref q_read, .ref q_now, .ref q_aside, .ref q_past, .int v_undos, .ref q_images, .ref q_kept, .long v_seed, .ref q_text, .int v_size, .int v_fault, .ref q_sights, .int v_sightMany, .ref q_book, .int v_bookMany, .int o93.1, .int o0, .int 48, .int o93.2.1, .int o93.2.2, .int v_wrong, .ref q_went, .ref q_free, .ref q_stands])), (q_text, .inl (cI, 200, .inl v_text))] H := hP
    have hD : va_D A [(q_this, .inr (12, [.ref q_town, .ref q_read, .ref q_now, .ref q_aside, .ref q_past, .int v_undos, .ref q_images, .ref q_kept, .long v_seed, .ref q_text, .int v_size, .int v_fault, .ref q_sights, .int v_sightMany, .ref q_book, .int v_bookMany, .int o93.1, .int o0, .int 48, .int o93.2.1, .int o93.2.2, .int v_wrong, .ref q_went, .ref q_free, .ref q_stands])), (q_text, .inl (cI, 200, .inl v_text))] := hD
    have hl : lv_has ls 1 [(0, .ref q_this)] := hl
    have ho9 := Option.some.inj hrun
    subst ho9
    have hP9 := hP.sub (ws' := [(q_this, .inr (12, [.ref q_town, .ref q_read, .ref q_now, .ref q_aside, .ref q_past, .int v_undos, .ref q_images, .ref q_kept, .long v_seed, .ref q_text, .int v_size, .int v_fault, .ref q_sights, .int v_sightMany, .ref q_book, .int v_bookMany, .int o93.1, .int o0, .int 48, .int o93.2.1, .int o93.2.2, .int v_wrong, .ref q_went, .ref q_free, .ref q_stands])), (q_text, .inl (cI, 200, .inl v_text))]) [0, 1] rfl
    have hD9 := hD.sub (ws' := [(q_this, .inr (12, [.ref q_town, .ref q_read, .ref q_now, .ref q_aside, .ref q_past, .int v_undos, .ref q_images, .ref q_kept, .long v_seed, .ref q_text, .int v_size, .int v_fault, .ref q_sights, .int v_sightMany, .ref q_book, .int v_bookMany, .int o93.1, .int o0, .int 48, .int o93.2.1, .int o93.2.2, .int v_wrong, .ref q_went, .ref q_free, .ref q_stands])), (q_text, .inl (cI, 200, .inl v_text))]) [0, 1] (by decide) rfl
    rw [hQ]
    exact W.vret hx hb hr (fun t ht hW => ⟨⟨(), rfl, trivial, by rw [ht]; exact hP9, va_K.moved hW.alike hK, hD9⟩, hS.F ht⟩) hS.2.2 dX12_step_167
  · have hrun := oz_t hrun c2
    refine lv_aload_n hx hb dX12_step_65 rfl (lv_at hl 0 rfl) ?_
    refine lv_dup hx hb dX12_step_66 rfl ?_
    refine va_get (D := (dC, dI)) (ci := 12) (v := .int o0) (C := RX12) (T := TX12) (N := 25) hx hb hts hiX12 hown hK hP 0 rfl rfl 16 (by decide) hk74 (fun _ h9 => h9) rfl dX12_step_67 ?_
    refine lv_aload_n hx hb dX12_step_70 rfl (lv_at hl 0 rfl) ?_
    refine va_get (D := (dC, dI)) (ci := 12) (v := .int y32) (C := RX12) (T := TX12) (N := 25) hx hb hts hiX12 hown hK hP 0 rfl rfl 18 (by decide) hk84 (fun _ h9 => h9) rfl dX12_step_71 ?_
    refine lv_if_ge (tgt := 81) hx hb dX12_step_74 (by decide) (fun c5 => ?_) (fun c5 => ?_)
    · have hrun := oz_t hrun c5
      refine lv_iconst (v := 1) hx hb dX12_step_81 (by decide) ?_
      refine lv_iadd hx hb dX12_step_82 ?_
      refine va_put (D := (dC, dI)) (ci := 12) (v := .int (o0 + 1)) (ty := .int) (C := RX12) (T := TX12) (N := 25) hx hb hts hiX12 tyX12 tyX12_ok nmX12 hown hK hP hD hS 0 rfl rfl 16 (by decide) hk74 (fun _ h9 => h9) rfl (by decide +kernel) rfl rfl (Nat.le_of_ble_eq_true rfl) dX12_step_83 (fun H locs hP hD hS => ?_)
      have hP : va_P (dC, dI) vwCl [(q_this, .inr (12, [.ref q_town, .ref q_read, .ref q_now, .ref q_aside, .ref q_past, .int v_undos, .ref q_images, .ref q_kept, .long v_seed, .ref q_text, .int v_size, .int v_fault, .ref q_sights, .int v_sightMany, .ref q_book, .int v_bookMany, .int (o0 + 1), .int o0, .int y32, .int 0, .int 0, .int v_wrong, .ref q_went, .ref q_free, .ref q_stands])), (q_text, .inl (cI, 200, .inl v_text))] H := hP
      have hD : va_D A [(q_this, .inr (12, [.ref q_town, .ref q_read, .ref q_now, .ref q_aside, .ref q_past, .int v_undos, .ref q_images, .ref q_kept, .long v_seed, .ref q_text, .int v_size, .int v_fault, .ref q_sights, .int v_sightMany, .ref q_book, .int v_bookMany, .int (o0 + 1), .int o0, .int y32, .int 0, .int 0, .int v_wrong, .ref q_went, .ref q_free, .ref q_stands])), (q_text, .inl (cI, 200, .inl v_text))] := hD
      have ho9 := Option.some.inj hrun
      subst ho9
      have hP9 := hP.sub (ws' := [(q_this, .inr (12, [.ref q_town, .ref q_read, .ref q_now, .ref q_aside, .ref q_past, .int v_undos, .ref q_images, .ref q_kept, .long v_seed, .ref q_text, .int v_size, .int v_fault, .ref q_sights, .int v_sightMany, .ref q_book, .int v_bookMany, .int (o0 + 1), .int o0, .int y32, .int 0, .int 0, .int v_wrong, .ref q_went, .ref q_free, .ref q_stands])), (q_text, .inl (cI, 200, .inl v_text))]) [0, 1] rfl
      have hD9 := hD.sub (ws' := [(q_this, .inr (12, [.ref q_town, .ref q_read, .ref q_now, .ref q_aside, .ref q_past, .int v_undos, .ref q_images, .ref q_kept, .long v_seed, .ref q_text, .int v_size, .int v_fault, .ref q_sights, .int v_sightMany, .ref q_book, .int v_bookMany, .int (o0 + 1), .int o0, .int y32, .int 0, .int 0, .int v_wrong, .ref q_went, .ref q_free, .ref q_stands])), (q_text, .inl (cI, 200, .inl v_text))]) [0, 1] (by decide) rfl
      rw [hQ]
      exact W.vret hx hb hr (fun t ht hW => ⟨⟨(), rfl, trivial, by rw [ht]; exact hP9, va_K.moved hW.alike hK, hD9⟩, hS.F ht⟩) hS.2.2 dX12_step_86
    · have hrun := oz_f hrun c5
      refine lv_iconst (v := 0) hx hb dX12_step_77 (by decide) ?_
      refine lv_goto (tgt := 82) hx hb dX12_step_78 (by decide) ?_
      refine lv_iadd hx hb dX12_step_82 ?_
      refine va_put (D := (dC, dI)) (ci := 12) (v := .int (o0 + 0)) (ty := .int) (C := RX12) (T := TX12) (N := 25) hx hb hts hiX12 tyX12 tyX12_ok nmX12 hown hK hP hD hS 0 rfl rfl 16 (by decide) hk74 (fun _ h9 => h9) rfl (by decide +kernel) rfl rfl (Nat.le_of_ble_eq_true rfl) dX12_step_83 (fun H locs hP hD hS => ?_)
      have hP : va_P (dC, dI) vwCl [(q_this, .inr (12, [.ref q_town, .ref q_read, .ref q_now, .ref q_aside, .ref q_past, .int v_undos, .ref q_images, .ref q_kept, .long v_seed, .ref q_text, .int v_size, .int v_fault, .ref q_sights, .int v_sightMany, .ref q_book, .int v_bookMany, .int (o0 + 0), .int o0, .int y32, .int 0, .int 0, .int v_wrong, .ref q_went, .ref q_free, .ref q_stands])), (q_text, .inl (cI, 200, .inl v_text))] H := hP
      have hD : va_D A [(q_this, .inr (12, [.ref q_town, .ref q_read, .ref q_now, .ref q_aside, .ref q_past, .int v_undos, .ref q_images, .ref q_kept, .long v_seed, .ref q_text, .int v_size, .int v_fault, .ref q_sights, .int v_sightMany, .ref q_book, .int v_bookMany, .int (o0 + 0), .int o0, .int y32, .int 0, .int 0, .int v_wrong, .ref q_went, .ref q_free, .ref q_stands])), (q_text, .inl (cI, 200, .inl v_text))] := hD
      have ho9 := Option.some.inj hrun
      subst ho9
      have hP9 := hP.sub (ws' := [(q_this, .inr (12, [.ref q_town, .ref q_read, .ref q_now, .ref q_aside, .ref q_past, .int v_undos, .ref q_images, .ref q_kept, .long v_seed, .ref q_text, .int v_size, .int v_fault, .ref q_sights, .int v_sightMany, .ref q_book, .int v_bookMany, .int (o0 + 0), .int o0, .int y32, .int 0, .int 0, .int v_wrong, .ref q_went, .ref q_free, .ref q_stands])), (q_text, .inl (cI, 200, .inl v_text))]) [0, 1] rfl
      have hD9 := hD.sub (ws' := [(q_this, .inr (12, [.ref q_town, .ref q_read, .ref q_now, .ref q_aside, .ref q_past, .int v_undos, .ref q_images, .ref q_kept, .long v_seed, .ref q_text, .int v_size, .int v_fault, .ref q_sights, .int v_sightMany, .ref q_book, .int v_bookMany, .int (o0 + 0), .int o0, .int y32, .int 0, .int 0, .int v_wrong, .ref q_went, .ref q_free, .ref q_stands])), (q_text, .inl (cI, 200, .inl v_text))]) [0, 1] (by decide) rfl
      rw [hQ]
      exact W.vret hx hb hr (fun t ht hW => ⟨⟨(), rfl, trivial, by rw [ht]; exact hP9, va_K.moved hW.alike hK, hD9⟩, hS.F ht⟩) hS.2.2 dX12_step_86
def fX12_fails (v_wrong : Int32) (a1 : Int32) : Option (Int32 × Int32) :=
  some (0, a1)
def rmX12_fails : Room := { frames := 0, cells := 0, slots := 0, locals := 0 }
set_option maxHeartbeats 4000000 in
set_option maxRecDepth 100000 in
theorem tX12_fails (l : Launch) (dC : Nat → ClassId) (dI : Nat → Nat → Nat) (cI cZ : ClassId) (q_aside q_book q_free q_images q_kept q_now q_past q_read q_sights q_stands q_text q_this q_town q_went : Nat) (sz : Nat) (v_undos : Int32) (v_seed : Int64) (v_size : Int32) (v_fault : Int32) (v_sightMany : Int32) (v_bookMany : Int32) (v_at : Int32) (v_begin : Int32) (v_sign : Int32) (v_figures : Int32) (v_value : Int32) (v_wrong : Int32) (a1 : Int32) (out : Int32 × Int32) (hrun : fX12_fails v_wrong a1 = some out) : Met l yX12_fails wsX12_fails rmX12_fails (va_Pc [.ref q_this, .int a1] (fun U => U.heap.size = sz ∧ va_P (dC, dI) vwCl [(q_this, .inr (12, [.ref q_town, .ref q_read, .ref q_now, .ref q_aside, .ref q_past, .int v_undos, .ref q_images, .ref q_kept, .long v_seed, .ref q_text, .int v_size, .int v_fault, .ref q_sights, .int v_sightMany, .ref q_book, .int v_bookMany, .int v_at, .int v_begin, .int v_sign, .int v_figures, .int v_value, .int v_wrong, .ref q_went, .ref q_free, .ref q_stands]))] U.heap ∧ va_K (dC, dI) vwCl [(cI, .int), (cZ, .boolean)] U ∧ va_D (fun _ => True) [(q_this, .inr (12, [.ref q_town, .ref q_read, .ref q_now, .ref q_aside, .ref q_past, .int v_undos, .ref q_images, .ref q_kept, .long v_seed, .ref q_text, .int v_size, .int v_fault, .ref q_sights, .int v_sightMany, .ref q_book, .int v_bookMany, .int v_at, .int v_begin, .int v_sign, .int v_figures, .int v_value, .int v_wrong, .ref q_went, .ref q_free, .ref q_stands]))])) (va_Qi (fun (r : Int32) (_ : Unit) => r = out.1) (fun _ t => va_P (dC, dI) vwCl [(q_this, .inr (12, [.ref q_town, .ref q_read, .ref q_now, .ref q_aside, .ref q_past, .int v_undos, .ref q_images, .ref q_kept, .long v_seed, .ref q_text, .int v_size, .int v_fault, .ref q_sights, .int v_sightMany, .ref q_book, .int v_bookMany, .int v_at, .int v_begin, .int v_sign, .int v_figures, .int v_value, .int out.2, .ref q_went, .ref q_free, .ref q_stands]))] t.heap ∧ va_K (dC, dI) vwCl [(cI, .int), (cZ, .boolean)] t ∧ va_D (va_A [(q_this, .inr (12, [.ref q_town, .ref q_read, .ref q_now, .ref q_aside, .ref q_past, .int v_undos, .ref q_images, .ref q_kept, .long v_seed, .ref q_text, .int v_size, .int v_fault, .ref q_sights, .int v_sightMany, .ref q_book, .int v_bookMany, .int v_at, .int v_begin, .int v_sign, .int v_figures, .int v_value, .int v_wrong, .ref q_went, .ref q_free, .ref q_stands]))] sz) [(q_this, .inr (12, [.ref q_town, .ref q_read, .ref q_now, .ref q_aside, .ref q_past, .int v_undos, .ref q_images, .ref q_kept, .long v_seed, .ref q_text, .int v_size, .int v_fault, .ref q_sights, .int v_sightMany, .ref q_book, .int v_bookMany, .int v_at, .int v_begin, .int v_sign, .int v_figures, .int v_value, .int out.2, .ref q_went, .ref q_free, .ref q_stands]))]) (va_A [(q_this, .inr (12, [.ref q_town, .ref q_read, .ref q_now, .ref q_aside, .ref q_past, .int v_undos, .ref q_images, .ref q_kept, .long v_seed, .ref q_text, .int v_size, .int v_fault, .ref q_sights, .int v_sightMany, .ref q_book, .int v_bookMany, .int v_at, .int v_begin, .int v_sign, .int v_figures, .int v_value, .int v_wrong, .ref q_went, .ref q_free, .ref q_stands]))] sz)) 0 0 (va_A [(q_this, .inr (12, [.ref q_town, .ref q_read, .ref q_now, .ref q_aside, .ref q_past, .int v_undos, .ref q_images, .ref q_kept, .long v_seed, .ref q_text, .int v_size, .int v_fault, .ref q_sights, .int v_sightMany, .ref q_book, .int v_bookMany, .int v_at, .int v_begin, .int v_sign, .int v_figures, .int v_value, .int v_wrong, .ref q_went, .ref q_free, .ref q_stands]))] sz) := by
  refine Met.ofW (cc := cX12_fails) (maxL := 2) (ret := (some .boolean)) (by decide) rfl ?_
  intro p e s m args below meth c s₁ B hml hv
  obtain ⟨rfl, hsz, hP, hK, hD0⟩ := hv
  have hx := B.exec
  have hb := B.bytes
  have hr := B.returns
  have hts := atoms_spec (ws := wsX12_fails) B.pre
  have hown : s.vm.findClass RX12 = some m.cls := findClass_of_methodNamed B.named
  have hlocks := B.notSynchronized
  subst hsz
  have hD := hD0.self (sz := s.heap.size)
  generalize hAe : va_A [(q_this, .inr (12, [.ref q_town, .ref q_read, .ref q_now, .ref q_aside, .ref q_past, .int v_undos, .ref q_images, .ref q_kept, .long v_seed, .ref q_text, .int v_size, .int v_fault, .ref q_sights, .int v_sightMany, .ref q_book, .int v_bookMany, .int v_at, .int v_begin, .int v_sign, .int v_figures, .int v_value, .int v_wrong, .ref q_went, .ref q_free, .ref q_stands]))] s.heap.size = A at hD ⊢
  have hA : ∀ q : Nat, s.heap.size ≤ q → A q := fun q h => by rw [← hAe]; exact Or.inr h
  have hS : va_S A s.heap s.heap [] := va_S.rf
  have hl := lv_entry ([.ref q_this, .int a1]) (n := 2) (Nat.le_of_ble_eq_true rfl)
  rw [lg_entry_eq]
  generalize (lg_sl ([.ref q_this, .int a1]) ++ List.replicate (2 - (lg_sl ([.ref q_this, .int a1])).length) Slot.unset).toArray = ls at hl ⊢
  have hl : lv_has ls 2 [(0, .ref q_this), (1, .int a1)] := hl
  unfold fX12_fails at hrun
  have hk97 := hts (.fieldLink RX12 97 "LentDrainsModel" "wrong" "I") (by decide +kernel)
  have hiX12 : ∀ w ∈ wsX120, w ∈ wsX12_fails := by decide +kernel
  refine oz_genQ (fun Q hQ => ?_)
  refine lv_aload_n hx hb dX12_fails_0 rfl (lv_at hl 0 rfl) ?_
  refine lv_iload_n hx hb dX12_fails_1 rfl (lv_at hl 1 rfl) ?_
  refine va_put (D := (dC, dI)) (ci := 12) (v := .int a1) (ty := .int) (C := RX12) (T := TX12) (N := 25) hx hb hts hiX12 tyX12 tyX12_ok nmX12 hown hK hP hD hS 0 rfl rfl 21 (by decide) hk97 (fun _ h9 => h9) rfl (by decide +kernel) rfl rfl (Nat.le_of_ble_eq_true rfl) dX12_fails_2 (fun H locs hP hD hS => ?_)
  have hP : va_P (dC, dI) vwCl [(q_this, .inr (12, [.ref q_town, .ref q_read, .ref q_now, .ref q_aside, .ref q_past, .int v_undos, .ref q_images, .ref q_kept, .long v_seed, .ref q_text, .int v_size, .int v_fault, .ref q_sights, .int v_sightMany, .ref q_book, .int v_bookMany, .int v_at, .int v_begin, .int v_sign, .int v_figures, .int v_value, .int a1, .ref q_went, .ref q_free, .ref q_stands]))] H := hP
  have hD : va_D A [(q_this, .inr (12, [.ref q_town, .ref q_read, .ref q_now, .ref q_aside, .ref q_past, .int v_undos, .ref q_images, .ref q_kept, .long v_seed, .ref q_text, .int v_size, .int v_fault, .ref q_sights, .int v_sightMany, .ref q_book, .int v_bookMany, .int v_at, .int v_begin, .int v_sign, .int v_figures, .int v_value, .int a1, .ref q_went, .ref q_free, .ref q_stands]))] := hD
  refine lv_iconst (v := 0) hx hb dX12_fails_5 (by decide) ?_
  have ho9 := Option.some.inj hrun
  subst ho9
  have hP9 := hP.sub (ws' := [(q_this, .inr (12, [.ref q_town, .ref q_read, .ref q_now, .ref q_aside, .ref q_past, .int v_undos, .ref q_images, .ref q_kept, .long v_seed, .ref q_text, .int v_size, .int v_fault, .ref q_sights, .int v_sightMany, .ref q_book, .int v_bookMany, .int v_at, .int v_begin, .int v_sign, .int v_figures, .int v_value, .int a1, .ref q_went, .ref q_free, .ref q_stands]))]) [0] rfl
  have hD9 := hD.sub (ws' := [(q_this, .inr (12, [.ref q_town, .ref q_read, .ref q_now, .ref q_aside, .ref q_past, .int v_undos, .ref q_images, .ref q_kept, .long v_seed, .ref q_text, .int v_size, .int v_fault, .ref q_sights, .int v_sightMany, .ref q_book, .int v_bookMany, .int v_at, .int v_begin, .int v_sign, .int v_figures, .int v_value, .int a1, .ref q_went, .ref q_free, .ref q_stands]))]) [0] (by decide) rfl
  rw [hQ]
  exact W.zret (v := 0) (ty := .boolean) hx hb hr rfl (fun t ht hW => ⟨⟨0, (), rfl, rfl, by rw [ht]; exact hP9, va_K.moved hW.alike hK, hD9⟩, hS.F ht⟩) hS.2.2 dX12_fails_6
