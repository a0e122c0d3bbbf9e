section
theorem ikX4_forget_X4 : ∀ w ∈ wsX40, w ∈ wsX4_forget := by decide +kernel
set_option maxHeartbeats 1000000 in
set_option maxRecDepth 100000 in
theorem kX4_forget (l : Launch) (g : va_G) (cI cJ cZ : ClassId) (sz : Nat) (oa : Nat) (k1 : Nat) (k2 : Nat) (ba : Nat) (ca : Nat) (qm0 : Nat) (fr : Int32)  : Met l yX4_forget wsX4_forget ({ frames := 0, cells := 0, slots := 0, locals := 0 }) (pc_ g cI cJ cZ [.ref oa] [(oa, .inr (4, ov_ k1 k2 ba ca qm0 fr))] sz) (va_Qv (fun (_ : Unit) => True) (fun (_ : Unit) t => wd_ g cI cJ cZ (va_A [(oa, .inr (4, ov_ k1 k2 ba ca qm0 fr))] sz) [(oa, .inr (4, ov_ k1 k2 ba ca qm0 0))] t) (va_A [(oa, .inr (4, ov_ k1 k2 ba ca qm0 fr))] sz)) (0) (0) (va_A [(oa, .inr (4, ov_ k1 k2 ba ca qm0 fr))] sz) := by
  refine Met.ofW (cc := cX4_forget) (maxL := 1) (ret := none) (by decide) rfl ?_
  intro p e s m args below meth c s₁ B hml hv
  obtain ⟨rfl, hsz, hP, hK, hD0⟩ := hv
  have hx := B.exec
  have hb := B.bytes
  have hr := B.returns
  have hts := atoms_spec (ws := wsX4_forget) B.pre
  have hown : s.vm.findClass RX4 = some m.cls := findClass_of_methodNamed B.named
  have hlocks := B.notSynchronized
  subst hsz
  have hD := hD0.self (sz := s.heap.size)
  generalize hAe : va_A [(oa, .inr (4, ov_ k1 k2 ba ca qm0 fr))] s.heap.size = A at hD ⊢
  have hA : ∀ q : Nat, s.heap.size ≤ q → A q := fun q h => by rw [← hAe]; exact Or.inr h
  have hS : va_S A s.heap s.heap [] := va_S.rf
  have hP : va_P g vwCl [(oa, .inr (4, ov_ k1 k2 ba ca qm0 fr))] s.heap := hP
  have hl := lv_entry ([.ref oa]) (n := 1) (Nat.le_of_ble_eq_true rfl)
  rw [lg_entry_eq]
  generalize (lg_sl ([.ref oa]) ++ List.replicate (1 - (lg_sl ([.ref oa])).length) Slot.unset).toArray = ls at hl ⊢
  have hl : lv_has ls 1 [(0, .ref oa)] := hl
  have hH0 : s.heap = s.heap := rfl
  have hiX4 := ikX4_forget_X4
  refine lv_aload_n hx hb dX4_forget_0 rfl (lv_at hl 0 rfl) ?_
  refine lv_iconst (v := 0) hx hb dX4_forget_1 (by decide) ?_
  refine va_put (D := g) (ci := 4) (v := .int 0) (ty := .boolean) (C := RX4) (T := TX4) (N := 6) hx hb hts hiX4 tyX4 tyX4_ok nmX4 hown hK hP hD hS 0 rfl rfl 5 (by decide) (hts (.fieldLink RX4 29 "ShapeRelator$Overlay" "fresh" "Z") (List.mem_of_getElem? (i := 1) rfl)) (fun _ h9 => h9) rfl (by decide +kernel) (by decide +kernel) (by decide +kernel) (Nat.le_of_ble_eq_true rfl) dX4_forget_2 (fun H locs hP hD hS => ?_)
  have hP : va_P g vwCl [(oa, .inr (4, ov_ k1 k2 ba ca qm0 0))] H := hP
  have hD : va_D A [(oa, .inr (4, ov_ k1 k2 ba ca qm0 0))] := hD
  have hP9 := hP.sub (ws' := [(oa, .inr (4, ov_ k1 k2 ba ca qm0 0))]) [0] rfl
  have hD9 := hD.sub (ws' := [(oa, .inr (4, ov_ k1 k2 ba ca qm0 0))]) [0] (by decide) rfl
  exact W.vret hx hb hr (fun t ht hW => ⟨⟨(), rfl, trivial, by rw [ht]; exact hP9, va_K.moved hW.alike hK, hD9⟩, hS.F ht⟩) hS.2.2 dX4_forget_5

theorem ikX4_raise_X4 : ∀ w ∈ wsX40, w ∈ wsX4_raise := by decide +kernel
set_option maxHeartbeats 1000000 in
set_option maxRecDepth 100000 in
theorem kX4_raise (l : Launch) (g : va_G) (cI cJ cZ : ClassId) (sz : Nat) (oa : Nat) (k1 : Nat) (k2 : Nat) (ba : Nat) (ca : Nat) (qm0 : Nat) (fr : Int32) (mx : Nat → Int32) (o1 : Int32) (o2 : Int32) (d : Int32) (t1 : t3_ o1) (t2 : t3_ o2) : Met l yX4_raise wsX4_raise ({ frames := 0, cells := 0, slots := 0, locals := 0 }) (pc_ g cI cJ cZ [.ref oa, .int o1, .int o2, .int d] [(oa, .inr (4, ov_ k1 k2 ba ca qm0 fr)), (qm0, .inl (cI, 9, .inl mx))] sz) (va_Qv (fun (mx2 : (Nat → Int32)) => mx2 = rai_ mx o1 o2 d) (fun (mx2 : (Nat → Int32)) t => wd_ g cI cJ cZ (va_A [(oa, .inr (4, ov_ k1 k2 ba ca qm0 fr)), (qm0, .inl (cI, 9, .inl mx))] sz) [(oa, .inr (4, ov_ k1 k2 ba ca qm0 fr)), (qm0, .inl (cI, 9, .inl mx2))] t) (va_A [(oa, .inr (4, ov_ k1 k2 ba ca qm0 fr)), (qm0, .inl (cI, 9, .inl mx))] sz)) (0) (0) (va_A [(oa, .inr (4, ov_ k1 k2 ba ca qm0 fr)), (qm0, .inl (cI, 9, .inl mx))] sz) := by
  refine Met.ofW (cc := cX4_raise) (maxL := 5) (ret := none) (by decide) rfl ?_
  intro p e s m args below meth c s₁ B hml hv
  obtain ⟨rfl, hsz, hP, hK, hD0⟩ := hv
  have hx := B.exec
  have hb := B.bytes
  have hr := B.returns
  have hts := atoms_spec (ws := wsX4_raise) B.pre
  have hown : s.vm.findClass RX4 = some m.cls := findClass_of_methodNamed B.named
  have hlocks := B.notSynchronized
  subst hsz
  have hD := hD0.self (sz := s.heap.size)
  generalize hAe : va_A [(oa, .inr (4, ov_ k1 k2 ba ca qm0 fr)), (qm0, .inl (cI, 9, .inl mx))] s.heap.size = A at hD ⊢
  have hA : ∀ q : Nat, s.heap.size ≤ q → A q := fun q h => by rw [← hAe]; exact Or.inr h
  have hS : va_S A s.heap s.heap [] := va_S.rf
  have hP : va_P g vwCl [(oa, .inr (4, ov_ k1 k2 ba ca qm0 fr)), (qm0, .inl (cI, 9, .inl mx))] s.heap := hP
  have hl := lv_entry ([.ref oa, .int o1, .int o2, .int d]) (n := 5) (Nat.le_of_ble_eq_true rfl)
  rw [lg_entry_eq]
  generalize (lg_sl ([.ref oa, .int o1, .int o2, .int d]) ++ List.replicate (5 - (lg_sl ([.ref oa, .int o1, .int o2, .int d])).length) Slot.unset).toArray = ls at hl ⊢
  have hl : lv_has ls 5 [(0, .ref oa), (1, .int o1), (2, .int o2), (3, .int d)] := hl
  have hH0 : s.heap = s.heap := rfl
  have hiX4 := ikX4_raise_X4
  refine lv_iconst (v := 3) hx hb dX4_raise_0 (by decide) ?_
  refine lv_iload_n hx hb dX4_raise_1 rfl (lv_at hl 1 rfl) ?_
  refine lv_imul hx hb dX4_raise_2 ?_
  refine lv_iload_n hx hb dX4_raise_3 rfl (lv_at hl 2 rfl) ?_
  refine lv_iadd hx hb dX4_raise_4 ?_
  refine lv_istore (lv' := [(4, .int ((3 * o1) + o2)), (0, .ref oa), (1, .int o1), (2, .int o2), (3, .int d)]) hx hb dX4_raise_5 hl (by decide) rfl (fun ls hl => ?_)
  refine lv_aload_n hx hb dX4_raise_7 rfl (lv_at hl 1 rfl) ?_
  refine va_get (D := g) (ci := 4) (v := .ref qm0) (C := RX4) (T := TX4) (N := 6) hx hb hts hiX4 hown hK hP 0 rfl rfl 4 (by decide) (hts (.fieldLink RX4 25 "ShapeRelator$Overlay" "matrix" "[I") (List.mem_of_getElem? (i := 1) rfl)) (fun _ h9 => h9) rfl dX4_raise_8 ?_
  refine lv_iload hx hb dX4_raise_11 (lv_at hl 0 rfl) ?_
  refine va_iald (D := g) hx hb hK hP 1 0 rfl rfl (t3_i t1 t2) dX4_raise_13 ?_
  refine lv_iload_n hx hb dX4_raise_14 rfl (lv_at hl 4 rfl) ?_
  refine lv_icmp_ge (tgt := 26) hx hb dX4_raise_15 (by decide) (fun c1 => ?_) (fun c1 => ?_)
  · have hP9 := hP.sub (ws' := [(oa, .inr (4, ov_ k1 k2 ba ca qm0 fr)), (qm0, .inl (cI, 9, .inl mx))]) [0, 1] rfl
    have hD9 := hD.sub (ws' := [(oa, .inr (4, ov_ k1 k2 ba ca qm0 fr)), (qm0, .inl (cI, 9, .inl mx))]) [0, 1] (by decide) rfl
    exact W.vret hx hb hr (fun t ht hW => ⟨⟨mx, rfl, by unfold rai_ mat_; rw [if_neg (Int32.not_lt.mpr c1)], by rw [ht]; exact hP9, va_K.moved hW.alike hK, hD9⟩, hS.F ht⟩) hS.2.2 dX4_raise_26
  · refine lv_aload_n hx hb dX4_raise_18 rfl (lv_at hl 1 rfl) ?_
    refine va_get (D := g) (ci := 4) (v := .ref qm0) (C := RX4) (T := TX4) (N := 6) hx hb hts hiX4 hown hK hP 0 rfl rfl 4 (by decide) (hts (.fieldLink RX4 25 "ShapeRelator$Overlay" "matrix" "[I") (List.mem_of_getElem? (i := 1) rfl)) (fun _ h9 => h9) rfl dX4_raise_19 ?_
    refine lv_iload hx hb dX4_raise_22 (lv_at hl 0 rfl) ?_
    refine lv_iload_n hx hb dX4_raise_24 rfl (lv_at hl 4 rfl) ?_
    refine va_iast (D := g) hx hb hK hP hD hS 1 0 rfl rfl (t3_i t1 t2) dX4_raise_25 (fun H locs hP hD hS => ?_)
    have hP : va_P g vwCl [(oa, .inr (4, ov_ k1 k2 ba ca qm0 fr)), (qm0, .inl (cI, 9, .inl (upd mx ((3 * o1) + o2).toNatClampNeg d)))] H := hP
    have hD : va_D A [(oa, .inr (4, ov_ k1 k2 ba ca qm0 fr)), (qm0, .inl (cI, 9, .inl (upd mx ((3 * o1) + o2).toNatClampNeg d)))] := hD
    have hP9 := hP.sub (ws' := [(oa, .inr (4, ov_ k1 k2 ba ca qm0 fr)), (qm0, .inl (cI, 9, .inl (upd mx (3 * o1 + o2).toNatClampNeg d)))]) [0, 1] rfl
    have hD9 := hD.sub (ws' := [(oa, .inr (4, ov_ k1 k2 ba ca qm0 fr)), (qm0, .inl (cI, 9, .inl (upd mx (3 * o1 + o2).toNatClampNeg d)))]) [0, 1] (by decide) rfl
    exact W.vret hx hb hr (fun t ht hW => ⟨⟨upd mx (3 * o1 + o2).toNatClampNeg d, rfl, by unfold rai_ mat_; rw [if_pos (Int32.not_le.mp c1)], by rw [ht]; exact hP9, va_K.moved hW.alike hK, hD9⟩, hS.F ht⟩) hS.2.2 dX4_raise_26

theorem ikX4_at_X4 : ∀ w ∈ wsX40, w ∈ wsX4_at := by decide +kernel
set_option maxHeartbeats 1000000 in
set_option maxRecDepth 100000 in
theorem kX4_at (l : Launch) (g : va_G) (cI cJ cZ : ClassId) (sz : Nat) (oa : Nat) (k1 : Nat) (k2 : Nat) (ba : Nat) (ca : Nat) (qm0 : Nat) (fr : Int32) (mx : Nat → Int32) (o1 : Int32) (o2 : Int32) (t1 : t3_ o1) (t2 : t3_ o2) : Met l yX4_at wsX4_at ({ frames := 0, cells := 0, slots := 0, locals := 0 }) (pc_ g cI cJ cZ [.ref oa, .int o1, .int o2] [(oa, .inr (4, ov_ k1 k2 ba ca qm0 fr)), (qm0, .inl (cI, 9, .inl mx))] sz) (va_Qi (fun (r : Int32) (_ : Unit) => r = mat_ mx o1 o2) (fun (_ : Unit) t => wd_ g cI cJ cZ (va_A [(oa, .inr (4, ov_ k1 k2 ba ca qm0 fr)), (qm0, .inl (cI, 9, .inl mx))] sz) [(oa, .inr (4, ov_ k1 k2 ba ca qm0 fr)), (qm0, .inl (cI, 9, .inl mx))] t) (va_A [(oa, .inr (4, ov_ k1 k2 ba ca qm0 fr)), (qm0, .inl (cI, 9, .inl mx))] sz)) (0) (0) (va_A [(oa, .inr (4, ov_ k1 k2 ba ca qm0 fr)), (qm0, .inl (cI, 9, .inl mx))] sz) := by
  refine Met.ofW (cc := cX4_at) (maxL := 3) (ret := (some .int)) (by decide) rfl ?_
  intro p e s m args below meth c s₁ B hml hv
  obtain ⟨rfl, hsz, hP, hK, hD0⟩ := hv
  have hx := B.exec
  have hb := B.bytes
  have hr := B.returns
  have hts := atoms_spec (ws := wsX4_at) B.pre
  have hown : s.vm.findClass RX4 = some m.cls := findClass_of_methodNamed B.named
  have hlocks := B.notSynchronized
  subst hsz
  have hD := hD0.self (sz := s.heap.size)
  generalize hAe : va_A [(oa, .inr (4, ov_ k1 k2 ba ca qm0 fr)), (qm0, .inl (cI, 9, .inl mx))] s.heap.size = A at hD ⊢
  have hA : ∀ q : Nat, s.heap.size ≤ q → A q := fun q h => by rw [← hAe]; exact Or.inr h
  have hS : va_S A s.heap s.heap [] := va_S.rf
  have hP : va_P g vwCl [(oa, .inr (4, ov_ k1 k2 ba ca qm0 fr)), (qm0, .inl (cI, 9, .inl mx))] s.heap := hP
  have hl := lv_entry ([.ref oa, .int o1, .int o2]) (n := 3) (Nat.le_of_ble_eq_true rfl)
  rw [lg_entry_eq]
  generalize (lg_sl ([.ref oa, .int o1, .int o2]) ++ List.replicate (3 - (lg_sl ([.ref oa, .int o1, .int o2])).length) Slot.unset).toArray = ls at hl ⊢
  have hl : lv_has ls 3 [(0, .ref oa), (1, .int o1), (2, .int o2)] := hl
  have hH0 : s.heap = s.heap := rfl
  have hiX4 := ikX4_at_X4
  refine lv_aload_n hx hb dX4_at_0 rfl (lv_at hl 0 rfl) ?_
  refine va_get (D := g) (ci := 4) (v := .ref qm0) (C := RX4) (T := TX4) (N := 6) hx hb hts hiX4 hown hK hP 0 rfl rfl 4 (by decide) (hts (.fieldLink RX4 25 "ShapeRelator$Overlay" "matrix" "[I") (List.mem_of_getElem? (i := 1) rfl)) (fun _ h9 => h9) rfl dX4_at_1 ?_
  refine lv_iconst (v := 3) hx hb dX4_at_4 (by decide) ?_
  refine lv_iload_n hx hb dX4_at_5 rfl (lv_at hl 1 rfl) ?_
  refine lv_imul hx hb dX4_at_6 ?_
  refine lv_iload_n hx hb dX4_at_7 rfl (lv_at hl 2 rfl) ?_
  refine lv_iadd hx hb dX4_at_8 ?_
  refine va_iald (D := g) hx hb hK hP 1 0 rfl rfl (t3_i t1 t2) dX4_at_9 ?_
  have hP9 := hP.sub (ws' := [(oa, .inr (4, ov_ k1 k2 ba ca qm0 fr)), (qm0, .inl (cI, 9, .inl mx))]) [0, 1] rfl
  have hD9 := hD.sub (ws' := [(oa, .inr (4, ov_ k1 k2 ba ca qm0 fr)), (qm0, .inl (cI, 9, .inl mx))]) [0, 1] (by decide) rfl
  exact W.iret (v := (mx ((3 * o1) + o2).toNatClampNeg)) hx hb hr (fun t ht hW => ⟨⟨mx ((3 * o1) + o2).toNatClampNeg, (), rfl, rfl, by rw [ht]; exact hP9, va_K.moved hW.alike hK, hD9⟩, hS.F ht⟩) hS.2.2 dX4_at_10

set_option maxHeartbeats 1000000 in
set_option maxRecDepth 100000 in
theorem kX4_has (l : Launch) (g : va_G) (cI cJ cZ : ClassId) (sz : Nat) (oa : Nat) (k1 : Nat) (k2 : Nat) (ba : Nat) (ca : Nat) (qm0 : Nat) (fr : Int32) (mx : Nat → Int32) (o1 : Int32) (o2 : Int32) (t1 : t3_ o1) (t2 : t3_ o2) : Met l yX4_has wsX4_has ({ frames := 1, cells := 0, slots := 0, locals := 22 }) (pc_ g cI cJ cZ [.ref oa, .int o1, .int o2] [(oa, .inr (4, ov_ k1 k2 ba ca qm0 fr)), (qm0, .inl (cI, 9, .inl mx))] sz) (va_Qi (fun (r : Int32) (_ : Unit) => r = hs_ mx o1 o2) (fun (_ : Unit) t => wd_ g cI cJ cZ (va_A [(oa, .inr (4, ov_ k1 k2 ba ca qm0 fr)), (qm0, .inl (cI, 9, .inl mx))] sz) [(oa, .inr (4, ov_ k1 k2 ba ca qm0 fr)), (qm0, .inl (cI, 9, .inl mx))] t) (va_A [(oa, .inr (4, ov_ k1 k2 ba ca qm0 fr)), (qm0, .inl (cI, 9, .inl mx))] sz)) (0) (0) (va_A [(oa, .inr (4, ov_ k1 k2 ba ca qm0 fr)), (qm0, .inl (cI, 9, .inl mx))] sz) := by
  refine Met.ofW (cc := cX4_has) (maxL := 3) (ret := (some .boolean)) (by decide) rfl ?_
  intro p e s m args below meth c s₁ B hml hv
  obtain ⟨rfl, hsz, hP, hK, hD0⟩ := hv
  have hx := B.exec
  have hb := B.bytes
  have hr := B.returns
  have hts := atoms_spec (ws := wsX4_has) B.pre
  have hown : s.vm.findClass RX4 = some m.cls := findClass_of_methodNamed B.named
  have hlocks := B.notSynchronized
  subst hsz
  have hD := hD0.self (sz := s.heap.size)
  generalize hAe : va_A [(oa, .inr (4, ov_ k1 k2 ba ca qm0 fr)), (qm0, .inl (cI, 9, .inl mx))] s.heap.size = A at hD ⊢
  have hA : ∀ q : Nat, s.heap.size ≤ q → A q := fun q h => by rw [← hAe]; exact Or.inr h
  have hS : va_S A s.heap s.heap [] := va_S.rf
  have hP : va_P g vwCl [(oa, .inr (4, ov_ k1 k2 ba ca qm0 fr)), (qm0, .inl (cI, 9, .inl mx))] s.heap := hP
  have hl := lv_entry ([.ref oa, .int o1, .int o2]) (n := 3) (Nat.le_of_ble_eq_true rfl)
  rw [lg_entry_eq]
  generalize (lg_sl ([.ref oa, .int o1, .int o2]) ++ List.replicate (3 - (lg_sl ([.ref oa, .int o1, .int o2])).length) Slot.unset).toArray = ls at hl ⊢
  have hl : lv_has ls 3 [(0, .ref oa), (1, .int o1), (2, .int o2)] := hl
  have hH0 : s.heap = s.heap := rfl
  refine lv_aload_n hx hb dX4_has_0 rfl (lv_at hl 0 rfl) ?_
  refine lv_iload_n hx hb dX4_has_1 rfl (lv_at hl 1 rfl) ?_
  refine lv_iload_n hx hb dX4_has_2 rfl (lv_at hl 2 rfl) ?_
  have hPc := hP.sub (ws' := [(oa, .inr (4, ov_ k1 k2 ba ca qm0 fr)), (qm0, .inl (cI, 9, .inl mx))]) [0, 1] rfl
  have hDc := hD.sub (ws' := [(oa, .inr (4, ov_ k1 k2 ba ca qm0 fr)), (qm0, .inl (cI, 9, .inl mx))]) [0, 1] (by decide) rfl
  have hFc := va_free (wc := [(oa, .inr (4, ov_ k1 k2 ba ca qm0 fr)), (qm0, .inl (cI, 9, .inl mx))]) hD hS hA [0, 1] rfl
  refine va_calli (va_runV (As := [.int o1, .int o2]) (rest := []) ⟨hx, hb, hml, hown, hts⟩ (kX4_at l g cI cJ cZ s.heap.size oa k1 k2 ba ca qm0 fr mx o1 o2 t1 t2) (cwV 2 hts gX4_has_X4_at rfl rfl rfl (by decide +kernel) ⟨Nat.le_of_ble_eq_true rfl, Nat.le_of_ble_eq_true rfl⟩) (pv_ hK hPc hDc (va_recv hK hPc (ci := 4) (q0 := 0) rfl rfl)) rfl rfl hl.1 rfl (lv_room (Nat.le_of_ble_eq_true rfl)) dX4_has_3 ⟨Nat.zero_le _, Nat.zero_le _⟩) hS (fun q _ h => hFc q h) hFc (fun r1 u t H1 locs ht hvm hw1 hB hz1 hk1 hS => ?_)
  obtain ⟨hP1, hK1, hD1⟩ := hB
  rw [ht] at hP1
  obtain ⟨hP, hD⟩ := va_join (wr := []) (w1 := [(oa, .inr (4, ov_ k1 k2 ba ca qm0 fr)), (qm0, .inl (cI, 9, .inl mx))]) hP hD [0, 1] [] rfl rfl (by decide) (by decide) hk1 hFc hP1 hD1
  clear hPc hDc hFc hP1 hD1 hK1 hk1 hz1 hvm ht
  generalize H1 = H at hP hS ⊢
  have hP : va_P g vwCl [(oa, .inr (4, ov_ k1 k2 ba ca qm0 fr)), (qm0, .inl (cI, 9, .inl mx))] H := hP
  have hD : va_D A [(oa, .inr (4, ov_ k1 k2 ba ca qm0 fr)), (qm0, .inl (cI, 9, .inl mx))] := hD
  refine lv_iconst (v := (-1)) hx hb dX4_has_6 (by decide) ?_
  refine lv_icmp_eq (tgt := 14) hx hb dX4_has_7 (by decide) (fun c1 => ?_) (fun c1 => ?_)
  · refine lv_iconst (v := 0) hx hb dX4_has_14 (by decide) ?_
    have hP9 := hP.sub (ws' := [(oa, .inr (4, ov_ k1 k2 ba ca qm0 fr)), (qm0, .inl (cI, 9, .inl mx))]) [0, 1] rfl
    have hD9 := hD.sub (ws' := [(oa, .inr (4, ov_ k1 k2 ba ca qm0 fr)), (qm0, .inl (cI, 9, .inl mx))]) [0, 1] (by decide) rfl
    exact W.zret (v := 0) (ty := .boolean) hx hb hr (by decide +kernel) (fun t ht hW => ⟨⟨0, (), rfl, by (try simp only [hw1] at c1); simp [hs_, c1, hw1], by rw [ht]; exact hP9, va_K.moved hW.alike hK, hD9⟩, hS.F ht⟩) hS.2.2 dX4_has_15
  · refine lv_iconst (v := 1) hx hb dX4_has_10 (by decide) ?_
    refine lv_goto (tgt := 15) hx hb dX4_has_11 (by decide) ?_
    have hP9 := hP.sub (ws' := [(oa, .inr (4, ov_ k1 k2 ba ca qm0 fr)), (qm0, .inl (cI, 9, .inl mx))]) [0, 1] rfl
    have hD9 := hD.sub (ws' := [(oa, .inr (4, ov_ k1 k2 ba ca qm0 fr)), (qm0, .inl (cI, 9, .inl mx))]) [0, 1] (by decide) rfl
    exact W.zret (v := 1) (ty := .boolean) hx hb hr (by decide +kernel) (fun t ht hW => ⟨⟨1, (), rfl, by (try simp only [hw1] at c1); simp [hs_, c1, hw1], by rw [ht]; exact hP9, va_K.moved hW.alike hK, hD9⟩, hS.F ht⟩) hS.2.2 dX4_has_15

set_option maxHeartbeats 1000000 in
set_option maxRecDepth 100000 in
theorem kX4_dimensionInFirst (l : Launch) (g : va_G) (cI cJ cZ : ClassId) (sz : Nat) (oa : Nat) (k1 : Nat) (k2 : Nat) (ba : Nat) (ca : Nat) (qm0 : Nat) (fr : Int32) (mx : Nat → Int32) (o1 : Int32) (t1 : t3_ o1) : Met l yX4_dimensionInFirst wsX4_dimensionInFirst ({ frames := 1, cells := 0, slots := 0, locals := 22 }) (pc_ g cI cJ cZ [.ref oa, .int o1] [(oa, .inr (4, ov_ k1 k2 ba ca qm0 fr)), (qm0, .inl (cI, 9, .inl mx))] sz) (va_Qi (fun (r : Int32) (_ : Unit) => r = dif_ mx o1) (fun (_ : Unit) t => wd_ g cI cJ cZ (va_A [(oa, .inr (4, ov_ k1 k2 ba ca qm0 fr)), (qm0, .inl (cI, 9, .inl mx))] sz) [(oa, .inr (4, ov_ k1 k2 ba ca qm0 fr)), (qm0, .inl (cI, 9, .inl mx))] t) (va_A [(oa, .inr (4, ov_ k1 k2 ba ca qm0 fr)), (qm0, .inl (cI, 9, .inl mx))] sz)) (0) (0) (va_A [(oa, .inr (4, ov_ k1 k2 ba ca qm0 fr)), (qm0, .inl (cI, 9, .inl mx))] sz) := by
  refine Met.ofW (cc := cX4_dimensionInFirst) (maxL := 2) (ret := (some .int)) (by decide) rfl ?_
  intro p e s m args below meth c s₁ B hml hv
  obtain ⟨rfl, hsz, hP, hK, hD0⟩ := hv
  have hx := B.exec
  have hb := B.bytes
  have hr := B.returns
  have hts := atoms_spec (ws := wsX4_dimensionInFirst) B.pre
  have hown : s.vm.findClass RX4 = some m.cls := findClass_of_methodNamed B.named
  have hlocks := B.notSynchronized
  subst hsz
  have hD := hD0.self (sz := s.heap.size)
  generalize hAe : va_A [(oa, .inr (4, ov_ k1 k2 ba ca qm0 fr)), (qm0, .inl (cI, 9, .inl mx))] s.heap.size = A at hD ⊢
  have hA : ∀ q : Nat, s.heap.size ≤ q → A q := fun q h => by rw [← hAe]; exact Or.inr h
  have hS : va_S A s.heap s.heap [] := va_S.rf
  have hP : va_P g vwCl [(oa, .inr (4, ov_ k1 k2 ba ca qm0 fr)), (qm0, .inl (cI, 9, .inl mx))] s.heap := hP
  have hl := lv_entry ([.ref oa, .int o1]) (n := 2) (Nat.le_of_ble_eq_true rfl)
  rw [lg_entry_eq]
  generalize (lg_sl ([.ref oa, .int o1]) ++ List.replicate (2 - (lg_sl ([.ref oa, .int o1])).length) Slot.unset).toArray = ls at hl ⊢
  have hl : lv_has ls 2 [(0, .ref oa), (1, .int o1)] := hl
  have hH0 : s.heap = s.heap := rfl
  refine lv_aload_n hx hb dX4_dimensionInFirst_0 rfl (lv_at hl 0 rfl) ?_
  refine lv_iload_n hx hb dX4_dimensionInFirst_1 rfl (lv_at hl 1 rfl) ?_
  refine lv_iconst (v := 0) hx hb dX4_dimensionInFirst_2 (by decide) ?_
  have hPc := hP.sub (ws' := [(oa, .inr (4, ov_ k1 k2 ba ca qm0 fr)), (qm0, .inl (cI, 9, .inl mx))]) [0, 1] rfl
  have hDc := hD.sub (ws' := [(oa, .inr (4, ov_ k1 k2 ba ca qm0 fr)), (qm0, .inl (cI, 9, .inl mx))]) [0, 1] (by decide) rfl
  have hFc := va_free (wc := [(oa, .inr (4, ov_ k1 k2 ba ca qm0 fr)), (qm0, .inl (cI, 9, .inl mx))]) hD hS hA [0, 1] rfl
  refine va_calli (va_runV (As := [.int o1, .int 0]) (rest := []) ⟨hx, hb, hml, hown, hts⟩ (kX4_at l g cI cJ cZ s.heap.size oa k1 k2 ba ca qm0 fr mx o1 0 t1 t3_0) (cwV 2 hts gX4_dimensionInFirst_X4_at rfl rfl rfl (by decide +kernel) ⟨Nat.le_of_ble_eq_true rfl, Nat.le_of_ble_eq_true rfl⟩) (pv_ hK hPc hDc (va_recv hK hPc (ci := 4) (q0 := 0) rfl rfl)) rfl rfl hl.1 rfl (lv_room (Nat.le_of_ble_eq_true rfl)) dX4_dimensionInFirst_3 ⟨Nat.zero_le _, Nat.zero_le _⟩) hS (fun q _ h => hFc q h) hFc (fun r1 u t H1 locs ht hvm hw1 hB hz1 hk1 hS => ?_)
  obtain ⟨hP1, hK1, hD1⟩ := hB
  rw [ht] at hP1
  obtain ⟨hP, hD⟩ := va_join (wr := []) (w1 := [(oa, .inr (4, ov_ k1 k2 ba ca qm0 fr)), (qm0, .inl (cI, 9, .inl mx))]) hP hD [0, 1] [] rfl rfl (by decide) (by decide) hk1 hFc hP1 hD1
  clear hPc hDc hFc hP1 hD1 hK1 hk1 hz1 hvm ht
  generalize H1 = H at hP hS ⊢
  have hP : va_P g vwCl [(oa, .inr (4, ov_ k1 k2 ba ca qm0 fr)), (qm0, .inl (cI, 9, .inl mx))] H := hP
  have hD : va_D A [(oa, .inr (4, ov_ k1 k2 ba ca qm0 fr)), (qm0, .inl (cI, 9, .inl mx))] := hD
  refine lv_aload_n hx hb dX4_dimensionInFirst_6 rfl (lv_at hl 0 rfl) ?_
  refine lv_iload_n hx hb dX4_dimensionInFirst_7 rfl (lv_at hl 1 rfl) ?_
  refine lv_iconst (v := 1) hx hb dX4_dimensionInFirst_8 (by decide) ?_
  have hPc := hP.sub (ws' := [(oa, .inr (4, ov_ k1 k2 ba ca qm0 fr)), (qm0, .inl (cI, 9, .inl mx))]) [0, 1] rfl
  have hDc := hD.sub (ws' := [(oa, .inr (4, ov_ k1 k2 ba ca qm0 fr)), (qm0, .inl (cI, 9, .inl mx))]) [0, 1] (by decide) rfl
  have hFc := va_free (wc := [(oa, .inr (4, ov_ k1 k2 ba ca qm0 fr)), (qm0, .inl (cI, 9, .inl mx))]) hD hS hA [0, 1] rfl
  refine va_calli (va_runV (As := [.int o1, .int 1]) (rest := [.int r1]) ⟨hx, hb, hml, hown, hts⟩ (kX4_at l g cI cJ cZ H.size oa k1 k2 ba ca qm0 fr mx o1 1 t1 t3_1) (cwV 2 hts gX4_dimensionInFirst_X4_at rfl rfl rfl (by decide +kernel) ⟨Nat.le_of_ble_eq_true rfl, Nat.le_of_ble_eq_true rfl⟩) (pv_ hK hPc hDc (va_recv hK hPc (ci := 4) (q0 := 0) rfl rfl)) rfl rfl hl.1 rfl (lv_room (Nat.le_of_ble_eq_true rfl)) dX4_dimensionInFirst_9 ⟨Nat.zero_le _, Nat.zero_le _⟩) hS (fun q _ h => hFc q h) hFc (fun r2 u t H1 locs ht hvm hw2 hB hz1 hk1 hS => ?_)
  obtain ⟨hP1, hK1, hD1⟩ := hB
  rw [ht] at hP1
  obtain ⟨hP, hD⟩ := va_join (wr := []) (w1 := [(oa, .inr (4, ov_ k1 k2 ba ca qm0 fr)), (qm0, .inl (cI, 9, .inl mx))]) hP hD [0, 1] [] rfl rfl (by decide) (by decide) hk1 hFc hP1 hD1
  clear hPc hDc hFc hP1 hD1 hK1 hk1 hz1 hvm ht
  generalize H1 = H at hP hS ⊢
  have hP : va_P g vwCl [(oa, .inr (4, ov_ k1 k2 ba ca qm0 fr)), (qm0, .inl (cI, 9, .inl mx))] H := hP
  have hD : va_D A [(oa, .inr (4, ov_ k1 k2 ba ca qm0 fr)), (qm0, .inl (cI, 9, .inl mx))] := hD
  refine lv_aload_n hx hb dX4_dimensionInFirst_12 rfl (lv_at hl 0 rfl) ?_
  refine lv_iload_n hx hb dX4_dimensionInFirst_13 rfl (lv_at hl 1 rfl) ?_
  refine lv_iconst (v := 2) hx hb dX4_dimensionInFirst_14 (by decide) ?_
  have hPc := hP.sub (ws' := [(oa, .inr (4, ov_ k1 k2 ba ca qm0 fr)), (qm0, .inl (cI, 9, .inl mx))]) [0, 1] rfl
  have hDc := hD.sub (ws' := [(oa, .inr (4, ov_ k1 k2 ba ca qm0 fr)), (qm0, .inl (cI, 9, .inl mx))]) [0, 1] (by decide) rfl
  have hFc := va_free (wc := [(oa, .inr (4, ov_ k1 k2 ba ca qm0 fr)), (qm0, .inl (cI, 9, .inl mx))]) hD hS hA [0, 1] rfl
  refine va_calli (va_runV (As := [.int o1, .int 2]) (rest := [.int r2, .int r1]) ⟨hx, hb, hml, hown, hts⟩ (kX4_at l g cI cJ cZ H.size oa k1 k2 ba ca qm0 fr mx o1 2 t1 t3_2) (cwV 2 hts gX4_dimensionInFirst_X4_at rfl rfl rfl (by decide +kernel) ⟨Nat.le_of_ble_eq_true rfl, Nat.le_of_ble_eq_true rfl⟩) (pv_ hK hPc hDc (va_recv hK hPc (ci := 4) (q0 := 0) rfl rfl)) rfl rfl hl.1 rfl (lv_room (Nat.le_of_ble_eq_true rfl)) dX4_dimensionInFirst_15 ⟨Nat.zero_le _, Nat.zero_le _⟩) hS (fun q _ h => hFc q h) hFc (fun r3 u t H1 locs ht hvm hw3 hB hz1 hk1 hS => ?_)
  obtain ⟨hP1, hK1, hD1⟩ := hB
  rw [ht] at hP1
  obtain ⟨hP, hD⟩ := va_join (wr := []) (w1 := [(oa, .inr (4, ov_ k1 k2 ba ca qm0 fr)), (qm0, .inl (cI, 9, .inl mx))]) hP hD [0, 1] [] rfl rfl (by decide) (by decide) hk1 hFc hP1 hD1
  clear hPc hDc hFc hP1 hD1 hK1 hk1 hz1 hvm ht
  generalize H1 = H at hP hS ⊢
  have hP : va_P g vwCl [(oa, .inr (4, ov_ k1 k2 ba ca qm0 fr)), (qm0, .inl (cI, 9, .inl mx))] H := hP
  have hD : va_D A [(oa, .inr (4, ov_ k1 k2 ba ca qm0 fr)), (qm0, .inl (cI, 9, .inl mx))] := hD
  refine va_mmax hx hb (hml.trans hl.1.symm) hown (hts (.methodLink RX4 212 Lib.Math.max.name) (List.mem_of_getElem? (i := 1) rfl)) (hts (.static Lib.Math.max.name) (List.mem_of_getElem? (i := 2) rfl)) (hts (.initialized "java/lang/Math") (List.mem_of_getElem? (i := 3) rfl)) (hts (.code Lib.Math.max.name Lib.Math.max.code 2 (some .int)) (List.mem_of_getElem? (i := 4) rfl)) (Nat.le_of_ble_eq_true rfl) (Nat.le_of_ble_eq_true rfl) (Nat.zero_le _) (Nat.zero_le _) dX4_dimensionInFirst_18 ?_
  refine va_mmax hx hb (hml.trans hl.1.symm) hown (hts (.methodLink RX4 212 Lib.Math.max.name) (List.mem_of_getElem? (i := 1) rfl)) (hts (.static Lib.Math.max.name) (List.mem_of_getElem? (i := 2) rfl)) (hts (.initialized "java/lang/Math") (List.mem_of_getElem? (i := 3) rfl)) (hts (.code Lib.Math.max.name Lib.Math.max.code 2 (some .int)) (List.mem_of_getElem? (i := 4) rfl)) (Nat.le_of_ble_eq_true rfl) (Nat.le_of_ble_eq_true rfl) (Nat.zero_le _) (Nat.zero_le _) dX4_dimensionInFirst_21 ?_
  have hP9 := hP.sub (ws' := [(oa, .inr (4, ov_ k1 k2 ba ca qm0 fr)), (qm0, .inl (cI, 9, .inl mx))]) [0, 1] rfl
  have hD9 := hD.sub (ws' := [(oa, .inr (4, ov_ k1 k2 ba ca qm0 fr)), (qm0, .inl (cI, 9, .inl mx))]) [0, 1] (by decide) rfl
  exact W.iret (v := (if r1 < (if r2 < r3 then r3 else r2) then (if r2 < r3 then r3 else r2) else r1)) hx hb hr (fun t ht hW => ⟨⟨if r1 < (if r2 < r3 then r3 else r2) then (if r2 < r3 then r3 else r2) else r1, (), rfl, by rw [hw1, hw2, hw3]; rfl, by rw [ht]; exact hP9, va_K.moved hW.alike hK, hD9⟩, hS.F ht⟩) hS.2.2 dX4_dimensionInFirst_24

set_option maxHeartbeats 1000000 in
set_option maxRecDepth 100000 in
theorem kX4_dimensionInSecond (l : Launch) (g : va_G) (cI cJ cZ : ClassId) (sz : Nat) (oa : Nat) (k1 : Nat) (k2 : Nat) (ba : Nat) (ca : Nat) (qm0 : Nat) (fr : Int32) (mx : Nat → Int32) (o1 : Int32) (t1 : t3_ o1) : Met l yX4_dimensionInSecond wsX4_dimensionInSecond ({ frames := 1, cells := 0, slots := 0, locals := 22 }) (pc_ g cI cJ cZ [.ref oa, .int o1] [(oa, .inr (4, ov_ k1 k2 ba ca qm0 fr)), (qm0, .inl (cI, 9, .inl mx))] sz) (va_Qi (fun (r : Int32) (_ : Unit) => r = dis_ mx o1) (fun (_ : Unit) t => wd_ g cI cJ cZ (va_A [(oa, .inr (4, ov_ k1 k2 ba ca qm0 fr)), (qm0, .inl (cI, 9, .inl mx))] sz) [(oa, .inr (4, ov_ k1 k2 ba ca qm0 fr)), (qm0, .inl (cI, 9, .inl mx))] t) (va_A [(oa, .inr (4, ov_ k1 k2 ba ca qm0 fr)), (qm0, .inl (cI, 9, .inl mx))] sz)) (0) (0) (va_A [(oa, .inr (4, ov_ k1 k2 ba ca qm0 fr)), (qm0, .inl (cI, 9, .inl mx))] sz) := by
  refine Met.ofW (cc := cX4_dimensionInSecond) (maxL := 2) (ret := (some .int)) (by decide) rfl ?_
  intro p e s m args below meth c s₁ B hml hv
  obtain ⟨rfl, hsz, hP, hK, hD0⟩ := hv
  have hx := B.exec
  have hb := B.bytes
  have hr := B.returns
  have hts := atoms_spec (ws := wsX4_dimensionInSecond) B.pre
  have hown : s.vm.findClass RX4 = some m.cls := findClass_of_methodNamed B.named
  have hlocks := B.notSynchronized
  subst hsz
  have hD := hD0.self (sz := s.heap.size)
  generalize hAe : va_A [(oa, .inr (4, ov_ k1 k2 ba ca qm0 fr)), (qm0, .inl (cI, 9, .inl mx))] s.heap.size = A at hD ⊢
  have hA : ∀ q : Nat, s.heap.size ≤ q → A q := fun q h => by rw [← hAe]; exact Or.inr h
  have hS : va_S A s.heap s.heap [] := va_S.rf
  have hP : va_P g vwCl [(oa, .inr (4, ov_ k1 k2 ba ca qm0 fr)), (qm0, .inl (cI, 9, .inl mx))] s.heap := hP
  have hl := lv_entry ([.ref oa, .int o1]) (n := 2) (Nat.le_of_ble_eq_true rfl)
  rw [lg_entry_eq]
  generalize (lg_sl ([.ref oa, .int o1]) ++ List.replicate (2 - (lg_sl ([.ref oa, .int o1])).length) Slot.unset).toArray = ls at hl ⊢
  have hl : lv_has ls 2 [(0, .ref oa), (1, .int o1)] := hl
  have hH0 : s.heap = s.heap := rfl
  refine lv_aload_n hx hb dX4_dimensionInSecond_0 rfl (lv_at hl 0 rfl) ?_
  refine lv_iconst (v := 0) hx hb dX4_dimensionInSecond_1 (by decide) ?_
  refine lv_iload_n hx hb dX4_dimensionInSecond_2 rfl (lv_at hl 1 rfl) ?_
  have hPc := hP.sub (ws' := [(oa, .inr (4, ov_ k1 k2 ba ca qm0 fr)), (qm0, .inl (cI, 9, .inl mx))]) [0, 1] rfl
  have hDc := hD.sub (ws' := [(oa, .inr (4, ov_ k1 k2 ba ca qm0 fr)), (qm0, .inl (cI, 9, .inl mx))]) [0, 1] (by decide) rfl
  have hFc := va_free (wc := [(oa, .inr (4, ov_ k1 k2 ba ca qm0 fr)), (qm0, .inl (cI, 9, .inl mx))]) hD hS hA [0, 1] rfl
  refine va_calli (va_runV (As := [.int 0, .int o1]) (rest := []) ⟨hx, hb, hml, hown, hts⟩ (kX4_at l g cI cJ cZ s.heap.size oa k1 k2 ba ca qm0 fr mx 0 o1 t3_0 t1) (cwV 2 hts gX4_dimensionInSecond_X4_at rfl rfl rfl (by decide +kernel) ⟨Nat.le_of_ble_eq_true rfl, Nat.le_of_ble_eq_true rfl⟩) (pv_ hK hPc hDc (va_recv hK hPc (ci := 4) (q0 := 0) rfl rfl)) rfl rfl hl.1 rfl (lv_room (Nat.le_of_ble_eq_true rfl)) dX4_dimensionInSecond_3 ⟨Nat.zero_le _, Nat.zero_le _⟩) hS (fun q _ h => hFc q h) hFc (fun r1 u t H1 locs ht hvm hw1 hB hz1 hk1 hS => ?_)
  obtain ⟨hP1, hK1, hD1⟩ := hB
  rw [ht] at hP1
  obtain ⟨hP, hD⟩ := va_join (wr := []) (w1 := [(oa, .inr (4, ov_ k1 k2 ba ca qm0 fr)), (qm0, .inl (cI, 9, .inl mx))]) hP hD [0, 1] [] rfl rfl (by decide) (by decide) hk1 hFc hP1 hD1
  clear hPc hDc hFc hP1 hD1 hK1 hk1 hz1 hvm ht
  generalize H1 = H at hP hS ⊢
  have hP : va_P g vwCl [(oa, .inr (4, ov_ k1 k2 ba ca qm0 fr)), (qm0, .inl (cI, 9, .inl mx))] H := hP
  have hD : va_D A [(oa, .inr (4, ov_ k1 k2 ba ca qm0 fr)), (qm0, .inl (cI, 9, .inl mx))] := hD
  refine lv_aload_n hx hb dX4_dimensionInSecond_6 rfl (lv_at hl 0 rfl) ?_
  refine lv_iconst (v := 1) hx hb dX4_dimensionInSecond_7 (by decide) ?_
  refine lv_iload_n hx hb dX4_dimensionInSecond_8 rfl (lv_at hl 1 rfl) ?_
  have hPc := hP.sub (ws' := [(oa, .inr (4, ov_ k1 k2 ba ca qm0 fr)), (qm0, .inl (cI, 9, .inl mx))]) [0, 1] rfl
  have hDc := hD.sub (ws' := [(oa, .inr (4, ov_ k1 k2 ba ca qm0 fr)), (qm0, .inl (cI, 9, .inl mx))]) [0, 1] (by decide) rfl
  have hFc := va_free (wc := [(oa, .inr (4, ov_ k1 k2 ba ca qm0 fr)), (qm0, .inl (cI, 9, .inl mx))]) hD hS hA [0, 1] rfl
  refine va_calli (va_runV (As := [.int 1, .int o1]) (rest := [.int r1]) ⟨hx, hb, hml, hown, hts⟩ (kX4_at l g cI cJ cZ H.size oa k1 k2 ba ca qm0 fr mx 1 o1 t3_1 t1) (cwV 2 hts gX4_dimensionInSecond_X4_at rfl rfl rfl (by decide +kernel) ⟨Nat.le_of_ble_eq_true rfl, Nat.le_of_ble_eq_true rfl⟩) (pv_ hK hPc hDc (va_recv hK hPc (ci := 4) (q0 := 0) rfl rfl)) rfl rfl hl.1 rfl (lv_room (Nat.le_of_ble_eq_true rfl)) dX4_dimensionInSecond_9 ⟨Nat.zero_le _, Nat.zero_le _⟩) hS (fun q _ h => hFc q h) hFc (fun r2 u t H1 locs ht hvm hw2 hB hz1 hk1 hS => ?_)
  obtain ⟨hP1, hK1, hD1⟩ := hB
  rw [ht] at hP1
  obtain ⟨hP, hD⟩ := va_join (wr := []) (w1 := [(oa, .inr (4, ov_ k1 k2 ba ca qm0 fr)), (qm0, .inl (cI, 9, .inl mx))]) hP hD [0, 1] [] rfl rfl (by decide) (by decide) hk1 hFc hP1 hD1
  clear hPc hDc hFc hP1 hD1 hK1 hk1 hz1 hvm ht
  generalize H1 = H at hP hS ⊢
  have hP : va_P g vwCl [(oa, .inr (4, ov_ k1 k2 ba ca qm0 fr)), (qm0, .inl (cI, 9, .inl mx))] H := hP
  have hD : va_D A [(oa, .inr (4, ov_ k1 k2 ba ca qm0 fr)), (qm0, .inl (cI, 9, .inl mx))] := hD
  refine lv_aload_n hx hb dX4_dimensionInSecond_12 rfl (lv_at hl 0 rfl) ?_
  refine lv_iconst (v := 2) hx hb dX4_dimensionInSecond_13 (by decide) ?_
  refine lv_iload_n hx hb dX4_dimensionInSecond_14 rfl (lv_at hl 1 rfl) ?_
  have hPc := hP.sub (ws' := [(oa, .inr (4, ov_ k1 k2 ba ca qm0 fr)), (qm0, .inl (cI, 9, .inl mx))]) [0, 1] rfl
  have hDc := hD.sub (ws' := [(oa, .inr (4, ov_ k1 k2 ba ca qm0 fr)), (qm0, .inl (cI, 9, .inl mx))]) [0, 1] (by decide) rfl
  have hFc := va_free (wc := [(oa, .inr (4, ov_ k1 k2 ba ca qm0 fr)), (qm0, .inl (cI, 9, .inl mx))]) hD hS hA [0, 1] rfl
  refine va_calli (va_runV (As := [.int 2, .int o1]) (rest := [.int r2, .int r1]) ⟨hx, hb, hml, hown, hts⟩ (kX4_at l g cI cJ cZ H.size oa k1 k2 ba ca qm0 fr mx 2 o1 t3_2 t1) (cwV 2 hts gX4_dimensionInSecond_X4_at rfl rfl rfl (by decide +kernel) ⟨Nat.le_of_ble_eq_true rfl, Nat.le_of_ble_eq_true rfl⟩) (pv_ hK hPc hDc (va_recv hK hPc (ci := 4) (q0 := 0) rfl rfl)) rfl rfl hl.1 rfl (lv_room (Nat.le_of_ble_eq_true rfl)) dX4_dimensionInSecond_15 ⟨Nat.zero_le _, Nat.zero_le _⟩) hS (fun q _ h => hFc q h) hFc (fun r3 u t H1 locs ht hvm hw3 hB hz1 hk1 hS => ?_)
  obtain ⟨hP1, hK1, hD1⟩ := hB
  rw [ht] at hP1
  obtain ⟨hP, hD⟩ := va_join (wr := []) (w1 := [(oa, .inr (4, ov_ k1 k2 ba ca qm0 fr)), (qm0, .inl (cI, 9, .inl mx))]) hP hD [0, 1] [] rfl rfl (by decide) (by decide) hk1 hFc hP1 hD1
  clear hPc hDc hFc hP1 hD1 hK1 hk1 hz1 hvm ht
  generalize H1 = H at hP hS ⊢
  have hP : va_P g vwCl [(oa, .inr (4, ov_ k1 k2 ba ca qm0 fr)), (qm0, .inl (cI, 9, .inl mx))] H := hP
  have hD : va_D A [(oa, .inr (4, ov_ k1 k2 ba ca qm0 fr)), (qm0, .inl (cI, 9, .inl mx))] := hD
  refine va_mmax hx hb (hml.trans hl.1.symm) hown (hts (.methodLink RX4 212 Lib.Math.max.name) (List.mem_of_getElem? (i := 1) rfl)) (hts (.static Lib.Math.max.name) (List.mem_of_getElem? (i := 2) rfl)) (hts (.initialized "java/lang/Math") (List.mem_of_getElem? (i := 3) rfl)) (hts (.code Lib.Math.max.name Lib.Math.max.code 2 (some .int)) (List.mem_of_getElem? (i := 4) rfl)) (Nat.le_of_ble_eq_true rfl) (Nat.le_of_ble_eq_true rfl) (Nat.zero_le _) (Nat.zero_le _) dX4_dimensionInSecond_18 ?_
  refine va_mmax hx hb (hml.trans hl.1.symm) hown (hts (.methodLink RX4 212 Lib.Math.max.name) (List.mem_of_getElem? (i := 1) rfl)) (hts (.static Lib.Math.max.name) (List.mem_of_getElem? (i := 2) rfl)) (hts (.initialized "java/lang/Math") (List.mem_of_getElem? (i := 3) rfl)) (hts (.code Lib.Math.max.name Lib.Math.max.code 2 (some .int)) (List.mem_of_getElem? (i := 4) rfl)) (Nat.le_of_ble_eq_true rfl) (Nat.le_of_ble_eq_true rfl) (Nat.zero_le _) (Nat.zero_le _) dX4_dimensionInSecond_21 ?_
  have hP9 := hP.sub (ws' := [(oa, .inr (4, ov_ k1 k2 ba ca qm0 fr)), (qm0, .inl (cI, 9, .inl mx))]) [0, 1] rfl
  have hD9 := hD.sub (ws' := [(oa, .inr (4, ov_ k1 k2 ba ca qm0 fr)), (qm0, .inl (cI, 9, .inl mx))]) [0, 1] (by decide) rfl
  exact W.iret (v := (if r1 < (if r2 < r3 then r3 else r2) then (if r2 < r3 then r3 else r2) else r1)) hx hb hr (fun t ht hW => ⟨⟨if r1 < (if r2 < r3 then r3 else r2) then (if r2 < r3 then r3 else r2) else r1, (), rfl, by rw [hw1, hw2, hw3]; rfl, by rw [ht]; exact hP9, va_K.moved hW.alike hK, hD9⟩, hS.F ht⟩) hS.2.2 dX4_dimensionInSecond_24

set_option maxHeartbeats 1000000 in
set_option maxRecDepth 100000 in
theorem kX4_haveCommonPlace (l : Launch) (g : va_G) (cI cJ cZ : ClassId) (sz : Nat) (oa : Nat) (k1 : Nat) (k2 : Nat) (ba : Nat) (ca : Nat) (qm0 : Nat) (fr : Int32) (mx : Nat → Int32)  : Met l yX4_haveCommonPlace wsX4_haveCommonPlace ({ frames := 2, cells := 0, slots := 0, locals := 44 }) (pc_ g cI cJ cZ [.ref oa] [(oa, .inr (4, ov_ k1 k2 ba ca qm0 fr)), (qm0, .inl (cI, 9, .inl mx))] sz) (va_Qi (fun (r : Int32) (_ : Unit) => r = hcp_ mx) (fun (_ : Unit) t => wd_ g cI cJ cZ (va_A [(oa, .inr (4, ov_ k1 k2 ba ca qm0 fr)), (qm0, .inl (cI, 9, .inl mx))] sz) [(oa, .inr (4, ov_ k1 k2 ba ca qm0 fr)), (qm0, .inl (cI, 9, .inl mx))] t) (va_A [(oa, .inr (4, ov_ k1 k2 ba ca qm0 fr)), (qm0, .inl (cI, 9, .inl mx))] sz)) (0) (0) (va_A [(oa, .inr (4, ov_ k1 k2 ba ca qm0 fr)), (qm0, .inl (cI, 9, .inl mx))] sz) := by
  refine Met.ofW (cc := cX4_haveCommonPlace) (maxL := 1) (ret := (some .boolean)) (by decide) rfl ?_
  intro p e s m args below meth c s₁ B hml hv
  obtain ⟨rfl, hsz, hP, hK, hD0⟩ := hv
  have hx := B.exec
  have hb := B.bytes
  have hr := B.returns
  have hts := atoms_spec (ws := wsX4_haveCommonPlace) B.pre
  have hown : s.vm.findClass RX4 = some m.cls := findClass_of_methodNamed B.named
  have hlocks := B.notSynchronized
  subst hsz
  have hD := hD0.self (sz := s.heap.size)
  generalize hAe : va_A [(oa, .inr (4, ov_ k1 k2 ba ca qm0 fr)), (qm0, .inl (cI, 9, .inl mx))] s.heap.size = A at hD ⊢
  have hA : ∀ q : Nat, s.heap.size ≤ q → A q := fun q h => by rw [← hAe]; exact Or.inr h
  have hS : va_S A s.heap s.heap [] := va_S.rf
  have hP : va_P g vwCl [(oa, .inr (4, ov_ k1 k2 ba ca qm0 fr)), (qm0, .inl (cI, 9, .inl mx))] s.heap := hP
  have hl := lv_entry ([.ref oa]) (n := 1) (Nat.le_of_ble_eq_true rfl)
  rw [lg_entry_eq]
  generalize (lg_sl ([.ref oa]) ++ List.replicate (1 - (lg_sl ([.ref oa])).length) Slot.unset).toArray = ls at hl ⊢
  have hl : lv_has ls 1 [(0, .ref oa)] := hl
  have hH0 : s.heap = s.heap := rfl
  refine lv_aload_n hx hb dX4_haveCommonPlace_0 rfl (lv_at hl 0 rfl) ?_
  refine lv_iconst (v := 0) hx hb dX4_haveCommonPlace_1 (by decide) ?_
  refine lv_iconst (v := 0) hx hb dX4_haveCommonPlace_2 (by decide) ?_
  have hPc := hP.sub (ws' := [(oa, .inr (4, ov_ k1 k2 ba ca qm0 fr)), (qm0, .inl (cI, 9, .inl mx))]) [0, 1] rfl
  have hDc := hD.sub (ws' := [(oa, .inr (4, ov_ k1 k2 ba ca qm0 fr)), (qm0, .inl (cI, 9, .inl mx))]) [0, 1] (by decide) rfl
  have hFc := va_free (wc := [(oa, .inr (4, ov_ k1 k2 ba ca qm0 fr)), (qm0, .inl (cI, 9, .inl mx))]) hD hS hA [0, 1] rfl
  refine va_calli (va_runV (As := [.int 0, .int 0]) (rest := []) ⟨hx, hb, hml, hown, hts⟩ (kX4_has l g cI cJ cZ s.heap.size oa k1 k2 ba ca qm0 fr mx 0 0 t3_0 t3_0) (cwV 2 hts gX4_haveCommonPlace_X4_has rfl rfl rfl (by decide +kernel) ⟨Nat.le_of_ble_eq_true rfl, Nat.le_of_ble_eq_true rfl⟩) (pv_ hK hPc hDc (va_recv hK hPc (ci := 4) (q0 := 0) rfl rfl)) rfl rfl hl.1 rfl (lv_room (Nat.le_of_ble_eq_true rfl)) dX4_haveCommonPlace_3 ⟨Nat.zero_le _, Nat.zero_le _⟩) hS (fun q _ h => hFc q h) hFc (fun r1 u t H1 locs ht hvm hw1 hB hz1 hk1 hS => ?_)
  obtain ⟨hP1, hK1, hD1⟩ := hB
  rw [ht] at hP1
  obtain ⟨hP, hD⟩ := va_join (wr := []) (w1 := [(oa, .inr (4, ov_ k1 k2 ba ca qm0 fr)), (qm0, .inl (cI, 9, .inl mx))]) hP hD [0, 1] [] rfl rfl (by decide) (by decide) hk1 hFc hP1 hD1
  clear hPc hDc hFc hP1 hD1 hK1 hk1 hz1 hvm ht
  generalize H1 = H at hP hS ⊢
  have hP : va_P g vwCl [(oa, .inr (4, ov_ k1 k2 ba ca qm0 fr)), (qm0, .inl (cI, 9, .inl mx))] H := hP
  have hD : va_D A [(oa, .inr (4, ov_ k1 k2 ba ca qm0 fr)), (qm0, .inl (cI, 9, .inl mx))] := hD
  refine lv_if_ne (tgt := 36) hx hb dX4_haveCommonPlace_6 (by decide) (fun c1 => ?_) (fun c1 => ?_)
  · refine lv_iconst (v := 1) hx hb dX4_haveCommonPlace_36 (by decide) ?_
    refine lv_goto (tgt := 41) hx hb dX4_haveCommonPlace_37 (by decide) ?_
    have hP9 := hP.sub (ws' := [(oa, .inr (4, ov_ k1 k2 ba ca qm0 fr)), (qm0, .inl (cI, 9, .inl mx))]) [0, 1] rfl
    have hD9 := hD.sub (ws' := [(oa, .inr (4, ov_ k1 k2 ba ca qm0 fr)), (qm0, .inl (cI, 9, .inl mx))]) [0, 1] (by decide) rfl
    exact W.zret (v := 1) (ty := .boolean) hx hb hr (by decide +kernel) (fun t ht hW => ⟨⟨1, (), rfl, by (try simp only [hw1] at c1); simp [hcp_, c1, hw1], by rw [ht]; exact hP9, va_K.moved hW.alike hK, hD9⟩, hS.F ht⟩) hS.2.2 dX4_haveCommonPlace_41
  · refine lv_aload_n hx hb dX4_haveCommonPlace_9 rfl (lv_at hl 0 rfl) ?_
    refine lv_iconst (v := 0) hx hb dX4_haveCommonPlace_10 (by decide) ?_
    refine lv_iconst (v := 1) hx hb dX4_haveCommonPlace_11 (by decide) ?_
    have hPc := hP.sub (ws' := [(oa, .inr (4, ov_ k1 k2 ba ca qm0 fr)), (qm0, .inl (cI, 9, .inl mx))]) [0, 1] rfl
    have hDc := hD.sub (ws' := [(oa, .inr (4, ov_ k1 k2 ba ca qm0 fr)), (qm0, .inl (cI, 9, .inl mx))]) [0, 1] (by decide) rfl
    have hFc := va_free (wc := [(oa, .inr (4, ov_ k1 k2 ba ca qm0 fr)), (qm0, .inl (cI, 9, .inl mx))]) hD hS hA [0, 1] rfl
    refine va_calli (va_runV (As := [.int 0, .int 1]) (rest := []) ⟨hx, hb, hml, hown, hts⟩ (kX4_has l g cI cJ cZ H.size oa k1 k2 ba ca qm0 fr mx 0 1 t3_0 t3_1) (cwV 2 hts gX4_haveCommonPlace_X4_has rfl rfl rfl (by decide +kernel) ⟨Nat.le_of_ble_eq_true rfl, Nat.le_of_ble_eq_true rfl⟩) (pv_ hK hPc hDc (va_recv hK hPc (ci := 4) (q0 := 0) rfl rfl)) rfl rfl hl.1 rfl (lv_room (Nat.le_of_ble_eq_true rfl)) dX4_haveCommonPlace_12 ⟨Nat.zero_le _, Nat.zero_le _⟩) hS (fun q _ h => hFc q h) hFc (fun r2 u t H1 locs ht hvm hw2 hB hz1 hk1 hS => ?_)
    obtain ⟨hP1, hK1, hD1⟩ := hB
    rw [ht] at hP1
    obtain ⟨hP, hD⟩ := va_join (wr := []) (w1 := [(oa, .inr (4, ov_ k1 k2 ba ca qm0 fr)), (qm0, .inl (cI, 9, .inl mx))]) hP hD [0, 1] [] rfl rfl (by decide) (by decide) hk1 hFc hP1 hD1
    clear hPc hDc hFc hP1 hD1 hK1 hk1 hz1 hvm ht
    generalize H1 = H at hP hS ⊢
    have hP : va_P g vwCl [(oa, .inr (4, ov_ k1 k2 ba ca qm0 fr)), (qm0, .inl (cI, 9, .inl mx))] H := hP
    have hD : va_D A [(oa, .inr (4, ov_ k1 k2 ba ca qm0 fr)), (qm0, .inl (cI, 9, .inl mx))] := hD
    refine lv_if_ne (tgt := 36) hx hb dX4_haveCommonPlace_15 (by decide) (fun c2 => ?_) (fun c2 => ?_)
    · refine lv_iconst (v := 1) hx hb dX4_haveCommonPlace_36 (by decide) ?_
      refine lv_goto (tgt := 41) hx hb dX4_haveCommonPlace_37 (by decide) ?_
      have hP9 := hP.sub (ws' := [(oa, .inr (4, ov_ k1 k2 ba ca qm0 fr)), (qm0, .inl (cI, 9, .inl mx))]) [0, 1] rfl
      have hD9 := hD.sub (ws' := [(oa, .inr (4, ov_ k1 k2 ba ca qm0 fr)), (qm0, .inl (cI, 9, .inl mx))]) [0, 1] (by decide) rfl
      exact W.zret (v := 1) (ty := .boolean) hx hb hr (by decide +kernel) (fun t ht hW => ⟨⟨1, (), rfl, by (try simp only [hw1, hw2] at c1 c2); simp [hcp_, c1, c2, hw1, hw2], by rw [ht]; exact hP9, va_K.moved hW.alike hK, hD9⟩, hS.F ht⟩) hS.2.2 dX4_haveCommonPlace_41
    · refine lv_aload_n hx hb dX4_haveCommonPlace_18 rfl (lv_at hl 0 rfl) ?_
      refine lv_iconst (v := 1) hx hb dX4_haveCommonPlace_19 (by decide) ?_
      refine lv_iconst (v := 0) hx hb dX4_haveCommonPlace_20 (by decide) ?_
      have hPc := hP.sub (ws' := [(oa, .inr (4, ov_ k1 k2 ba ca qm0 fr)), (qm0, .inl (cI, 9, .inl mx))]) [0, 1] rfl
      have hDc := hD.sub (ws' := [(oa, .inr (4, ov_ k1 k2 ba ca qm0 fr)), (qm0, .inl (cI, 9, .inl mx))]) [0, 1] (by decide) rfl
      have hFc := va_free (wc := [(oa, .inr (4, ov_ k1 k2 ba ca qm0 fr)), (qm0, .inl (cI, 9, .inl mx))]) hD hS hA [0, 1] rfl
      refine va_calli (va_runV (As := [.int 1, .int 0]) (rest := []) ⟨hx, hb, hml, hown, hts⟩ (kX4_has l g cI cJ cZ H.size oa k1 k2 ba ca qm0 fr mx 1 0 t3_1 t3_0) (cwV 2 hts gX4_haveCommonPlace_X4_has rfl rfl rfl (by decide +kernel) ⟨Nat.le_of_ble_eq_true rfl, Nat.le_of_ble_eq_true rfl⟩) (pv_ hK hPc hDc (va_recv hK hPc (ci := 4) (q0 := 0) rfl rfl)) rfl rfl hl.1 rfl (lv_room (Nat.le_of_ble_eq_true rfl)) dX4_haveCommonPlace_21 ⟨Nat.zero_le _, Nat.zero_le _⟩) hS (fun q _ h => hFc q h) hFc (fun r3 u t H1 locs ht hvm hw3 hB hz1 hk1 hS => ?_)
      obtain ⟨hP1, hK1, hD1⟩ := hB
      rw [ht] at hP1
      obtain ⟨hP, hD⟩ := va_join (wr := []) (w1 := [(oa, .inr (4, ov_ k1 k2 ba ca qm0 fr)), (qm0, .inl (cI, 9, .inl mx))]) hP hD [0, 1] [] rfl rfl (by decide) (by decide) hk1 hFc hP1 hD1
      clear hPc hDc hFc hP1 hD1 hK1 hk1 hz1 hvm ht
      generalize H1 = H at hP hS ⊢
      have hP : va_P g vwCl [(oa, .inr (4, ov_ k1 k2 ba ca qm0 fr)), (qm0, .inl (cI, 9, .inl mx))] H := hP
      have hD : va_D A [(oa, .inr (4, ov_ k1 k2 ba ca qm0 fr)), (qm0, .inl (cI, 9, .inl mx))] := hD
      refine lv_if_ne (tgt := 36) hx hb dX4_haveCommonPlace_24 (by decide) (fun c3 => ?_) (fun c3 => ?_)
      · refine lv_iconst (v := 1) hx hb dX4_haveCommonPlace_36 (by decide) ?_
        refine lv_goto (tgt := 41) hx hb dX4_haveCommonPlace_37 (by decide) ?_
        have hP9 := hP.sub (ws' := [(oa, .inr (4, ov_ k1 k2 ba ca qm0 fr)), (qm0, .inl (cI, 9, .inl mx))]) [0, 1] rfl
        have hD9 := hD.sub (ws' := [(oa, .inr (4, ov_ k1 k2 ba ca qm0 fr)), (qm0, .inl (cI, 9, .inl mx))]) [0, 1] (by decide) rfl
        exact W.zret (v := 1) (ty := .boolean) hx hb hr (by decide +kernel) (fun t ht hW => ⟨⟨1, (), rfl, by (try simp only [hw1, hw2, hw3] at c1 c2 c3); simp [hcp_, c1, c2, c3, hw1, hw2, hw3], by rw [ht]; exact hP9, va_K.moved hW.alike hK, hD9⟩, hS.F ht⟩) hS.2.2 dX4_haveCommonPlace_41
      · refine lv_aload_n hx hb dX4_haveCommonPlace_27 rfl (lv_at hl 0 rfl) ?_
        refine lv_iconst (v := 1) hx hb dX4_haveCommonPlace_28 (by decide) ?_
        refine lv_iconst (v := 1) hx hb dX4_haveCommonPlace_29 (by decide) ?_
        have hPc := hP.sub (ws' := [(oa, .inr (4, ov_ k1 k2 ba ca qm0 fr)), (qm0, .inl (cI, 9, .inl mx))]) [0, 1] rfl
        have hDc := hD.sub (ws' := [(oa, .inr (4, ov_ k1 k2 ba ca qm0 fr)), (qm0, .inl (cI, 9, .inl mx))]) [0, 1] (by decide) rfl
        have hFc := va_free (wc := [(oa, .inr (4, ov_ k1 k2 ba ca qm0 fr)), (qm0, .inl (cI, 9, .inl mx))]) hD hS hA [0, 1] rfl
        refine va_calli (va_runV (As := [.int 1, .int 1]) (rest := []) ⟨hx, hb, hml, hown, hts⟩ (kX4_has l g cI cJ cZ H.size oa k1 k2 ba ca qm0 fr mx 1 1 t3_1 t3_1) (cwV 2 hts gX4_haveCommonPlace_X4_has rfl rfl rfl (by decide +kernel) ⟨Nat.le_of_ble_eq_true rfl, Nat.le_of_ble_eq_true rfl⟩) (pv_ hK hPc hDc (va_recv hK hPc (ci := 4) (q0 := 0) rfl rfl)) rfl rfl hl.1 rfl (lv_room (Nat.le_of_ble_eq_true rfl)) dX4_haveCommonPlace_30 ⟨Nat.zero_le _, Nat.zero_le _⟩) hS (fun q _ h => hFc q h) hFc (fun r4 u t H1 locs ht hvm hw4 hB hz1 hk1 hS => ?_)
        obtain ⟨hP1, hK1, hD1⟩ := hB
        rw [ht] at hP1
        obtain ⟨hP, hD⟩ := va_join (wr := []) (w1 := [(oa, .inr (4, ov_ k1 k2 ba ca qm0 fr)), (qm0, .inl (cI, 9, .inl mx))]) hP hD [0, 1] [] rfl rfl (by decide) (by decide) hk1 hFc hP1 hD1
        clear hPc hDc hFc hP1 hD1 hK1 hk1 hz1 hvm ht
        generalize H1 = H at hP hS ⊢
        have hP : va_P g vwCl [(oa, .inr (4, ov_ k1 k2 ba ca qm0 fr)), (qm0, .inl (cI, 9, .inl mx))] H := hP
        have hD : va_D A [(oa, .inr (4, ov_ k1 k2 ba ca qm0 fr)), (qm0, .inl (cI, 9, .inl mx))] := hD
        refine lv_if_eq (tgt := 40) hx hb dX4_haveCommonPlace_33 (by decide) (fun c4 => ?_) (fun c4 => ?_)
        · refine lv_iconst (v := 0) hx hb dX4_haveCommonPlace_40 (by decide) ?_
          have hP9 := hP.sub (ws' := [(oa, .inr (4, ov_ k1 k2 ba ca qm0 fr)), (qm0, .inl (cI, 9, .inl mx))]) [0, 1] rfl
          have hD9 := hD.sub (ws' := [(oa, .inr (4, ov_ k1 k2 ba ca qm0 fr)), (qm0, .inl (cI, 9, .inl mx))]) [0, 1] (by decide) rfl
          exact W.zret (v := 0) (ty := .boolean) hx hb hr (by decide +kernel) (fun t ht hW => ⟨⟨0, (), rfl, by (try simp only [hw1, hw2, hw3, hw4] at c1 c2 c3 c4); simp [hcp_, c1, c2, c3, c4, hw1, hw2, hw3, hw4], by rw [ht]; exact hP9, va_K.moved hW.alike hK, hD9⟩, hS.F ht⟩) hS.2.2 dX4_haveCommonPlace_41
        · refine lv_iconst (v := 1) hx hb dX4_haveCommonPlace_36 (by decide) ?_
          refine lv_goto (tgt := 41) hx hb dX4_haveCommonPlace_37 (by decide) ?_
          have hP9 := hP.sub (ws' := [(oa, .inr (4, ov_ k1 k2 ba ca qm0 fr)), (qm0, .inl (cI, 9, .inl mx))]) [0, 1] rfl
          have hD9 := hD.sub (ws' := [(oa, .inr (4, ov_ k1 k2 ba ca qm0 fr)), (qm0, .inl (cI, 9, .inl mx))]) [0, 1] (by decide) rfl
          exact W.zret (v := 1) (ty := .boolean) hx hb hr (by decide +kernel) (fun t ht hW => ⟨⟨1, (), rfl, by (try simp only [hw1, hw2, hw3, hw4] at c1 c2 c3 c4); simp [hcp_, c1, c2, c3, c4, hw1, hw2, hw3, hw4], by rw [ht]; exact hP9, va_K.moved hW.alike hK, hD9⟩, hS.F ht⟩) hS.2.2 dX4_haveCommonPlace_41

set_option maxHeartbeats 1000000 in
set_option maxRecDepth 100000 in
theorem kX4_firstLeavesSecond (l : Launch) (g : va_G) (cI cJ cZ : ClassId) (sz : Nat) (oa : Nat) (k1 : Nat) (k2 : Nat) (ba : Nat) (ca : Nat) (qm0 : Nat) (fr : Int32) (mx : Nat → Int32)  : Met l yX4_firstLeavesSecond wsX4_firstLeavesSecond ({ frames := 2, cells := 0, slots := 0, locals := 44 }) (pc_ g cI cJ cZ [.ref oa] [(oa, .inr (4, ov_ k1 k2 ba ca qm0 fr)), (qm0, .inl (cI, 9, .inl mx))] sz) (va_Qi (fun (r : Int32) (_ : Unit) => r = fls_ mx) (fun (_ : Unit) t => wd_ g cI cJ cZ (va_A [(oa, .inr (4, ov_ k1 k2 ba ca qm0 fr)), (qm0, .inl (cI, 9, .inl mx))] sz) [(oa, .inr (4, ov_ k1 k2 ba ca qm0 fr)), (qm0, .inl (cI, 9, .inl mx))] t) (va_A [(oa, .inr (4, ov_ k1 k2 ba ca qm0 fr)), (qm0, .inl (cI, 9, .inl mx))] sz)) (0) (0) (va_A [(oa, .inr (4, ov_ k1 k2 ba ca qm0 fr)), (qm0, .inl (cI, 9, .inl mx))] sz) := by
  refine Met.ofW (cc := cX4_firstLeavesSecond) (maxL := 1) (ret := (some .boolean)) (by decide) rfl ?_
  intro p e s m args below meth c s₁ B hml hv
  obtain ⟨rfl, hsz, hP, hK, hD0⟩ := hv
  have hx := B.exec
  have hb := B.bytes
  have hr := B.returns
  have hts := atoms_spec (ws := wsX4_firstLeavesSecond) B.pre
  have hown : s.vm.findClass RX4 = some m.cls := findClass_of_methodNamed B.named
  have hlocks := B.notSynchronized
  subst hsz
  have hD := hD0.self (sz := s.heap.size)
  generalize hAe : va_A [(oa, .inr (4, ov_ k1 k2 ba ca qm0 fr)), (qm0, .inl (cI, 9, .inl mx))] s.heap.size = A at hD ⊢
  have hA : ∀ q : Nat, s.heap.size ≤ q → A q := fun q h => by rw [← hAe]; exact Or.inr h
  have hS : va_S A s.heap s.heap [] := va_S.rf
  have hP : va_P g vwCl [(oa, .inr (4, ov_ k1 k2 ba ca qm0 fr)), (qm0, .inl (cI, 9, .inl mx))] s.heap := hP
  have hl := lv_entry ([.ref oa]) (n := 1) (Nat.le_of_ble_eq_true rfl)
  rw [lg_entry_eq]
  generalize (lg_sl ([.ref oa]) ++ List.replicate (1 - (lg_sl ([.ref oa])).length) Slot.unset).toArray = ls at hl ⊢
  have hl : lv_has ls 1 [(0, .ref oa)] := hl
  have hH0 : s.heap = s.heap := rfl
  refine lv_aload_n hx hb dX4_firstLeavesSecond_0 rfl (lv_at hl 0 rfl) ?_
  refine lv_iconst (v := 0) hx hb dX4_firstLeavesSecond_1 (by decide) ?_
  refine lv_iconst (v := 2) hx hb dX4_firstLeavesSecond_2 (by decide) ?_
  have hPc := hP.sub (ws' := [(oa, .inr (4, ov_ k1 k2 ba ca qm0 fr)), (qm0, .inl (cI, 9, .inl mx))]) [0, 1] rfl
  have hDc := hD.sub (ws' := [(oa, .inr (4, ov_ k1 k2 ba ca qm0 fr)), (qm0, .inl (cI, 9, .inl mx))]) [0, 1] (by decide) rfl
  have hFc := va_free (wc := [(oa, .inr (4, ov_ k1 k2 ba ca qm0 fr)), (qm0, .inl (cI, 9, .inl mx))]) hD hS hA [0, 1] rfl
  refine va_calli (va_runV (As := [.int 0, .int 2]) (rest := []) ⟨hx, hb, hml, hown, hts⟩ (kX4_has l g cI cJ cZ s.heap.size oa k1 k2 ba ca qm0 fr mx 0 2 t3_0 t3_2) (cwV 2 hts gX4_firstLeavesSecond_X4_has rfl rfl rfl (by decide +kernel) ⟨Nat.le_of_ble_eq_true rfl, Nat.le_of_ble_eq_true rfl⟩) (pv_ hK hPc hDc (va_recv hK hPc (ci := 4) (q0 := 0) rfl rfl)) rfl rfl hl.1 rfl (lv_room (Nat.le_of_ble_eq_true rfl)) dX4_firstLeavesSecond_3 ⟨Nat.zero_le _, Nat.zero_le _⟩) hS (fun q _ h => hFc q h) hFc (fun r1 u t H1 locs ht hvm hw1 hB hz1 hk1 hS => ?_)
  obtain ⟨hP1, hK1, hD1⟩ := hB
  rw [ht] at hP1
  obtain ⟨hP, hD⟩ := va_join (wr := []) (w1 := [(oa, .inr (4, ov_ k1 k2 ba ca qm0 fr)), (qm0, .inl (cI, 9, .inl mx))]) hP hD [0, 1] [] rfl rfl (by decide) (by decide) hk1 hFc hP1 hD1
  clear hPc hDc hFc hP1 hD1 hK1 hk1 hz1 hvm ht
  generalize H1 = H at hP hS ⊢
  have hP : va_P g vwCl [(oa, .inr (4, ov_ k1 k2 ba ca qm0 fr)), (qm0, .inl (cI, 9, .inl mx))] H := hP
  have hD : va_D A [(oa, .inr (4, ov_ k1 k2 ba ca qm0 fr)), (qm0, .inl (cI, 9, .inl mx))] := hD
  refine lv_if_ne (tgt := 18) hx hb dX4_firstLeavesSecond_6 (by decide) (fun c1 => ?_) (fun c1 => ?_)
  · refine lv_iconst (v := 1) hx hb dX4_firstLeavesSecond_18 (by decide) ?_
    refine lv_goto (tgt := 23) hx hb dX4_firstLeavesSecond_19 (by decide) ?_
    have hP9 := hP.sub (ws' := [(oa, .inr (4, ov_ k1 k2 ba ca qm0 fr)), (qm0, .inl (cI, 9, .inl mx))]) [0, 1] rfl
    have hD9 := hD.sub (ws' := [(oa, .inr (4, ov_ k1 k2 ba ca qm0 fr)), (qm0, .inl (cI, 9, .inl mx))]) [0, 1] (by decide) rfl
    exact W.zret (v := 1) (ty := .boolean) hx hb hr (by decide +kernel) (fun t ht hW => ⟨⟨1, (), rfl, by (try simp only [hw1] at c1); simp [fls_, c1, hw1], by rw [ht]; exact hP9, va_K.moved hW.alike hK, hD9⟩, hS.F ht⟩) hS.2.2 dX4_firstLeavesSecond_23
  · refine lv_aload_n hx hb dX4_firstLeavesSecond_9 rfl (lv_at hl 0 rfl) ?_
    refine lv_iconst (v := 1) hx hb dX4_firstLeavesSecond_10 (by decide) ?_
    refine lv_iconst (v := 2) hx hb dX4_firstLeavesSecond_11 (by decide) ?_
    have hPc := hP.sub (ws' := [(oa, .inr (4, ov_ k1 k2 ba ca qm0 fr)), (qm0, .inl (cI, 9, .inl mx))]) [0, 1] rfl
    have hDc := hD.sub (ws' := [(oa, .inr (4, ov_ k1 k2 ba ca qm0 fr)), (qm0, .inl (cI, 9, .inl mx))]) [0, 1] (by decide) rfl
    have hFc := va_free (wc := [(oa, .inr (4, ov_ k1 k2 ba ca qm0 fr)), (qm0, .inl (cI, 9, .inl mx))]) hD hS hA [0, 1] rfl
    refine va_calli (va_runV (As := [.int 1, .int 2]) (rest := []) ⟨hx, hb, hml, hown, hts⟩ (kX4_has l g cI cJ cZ H.size oa k1 k2 ba ca qm0 fr mx 1 2 t3_1 t3_2) (cwV 2 hts gX4_firstLeavesSecond_X4_has rfl rfl rfl (by decide +kernel) ⟨Nat.le_of_ble_eq_true rfl, Nat.le_of_ble_eq_true rfl⟩) (pv_ hK hPc hDc (va_recv hK hPc (ci := 4) (q0 := 0) rfl rfl)) rfl rfl hl.1 rfl (lv_room (Nat.le_of_ble_eq_true rfl)) dX4_firstLeavesSecond_12 ⟨Nat.zero_le _, Nat.zero_le _⟩) hS (fun q _ h => hFc q h) hFc (fun r2 u t H1 locs ht hvm hw2 hB hz1 hk1 hS => ?_)
    obtain ⟨hP1, hK1, hD1⟩ := hB
    rw [ht] at hP1
    obtain ⟨hP, hD⟩ := va_join (wr := []) (w1 := [(oa, .inr (4, ov_ k1 k2 ba ca qm0 fr)), (qm0, .inl (cI, 9, .inl mx))]) hP hD [0, 1] [] rfl rfl (by decide) (by decide) hk1 hFc hP1 hD1
    clear hPc hDc hFc hP1 hD1 hK1 hk1 hz1 hvm ht
    generalize H1 = H at hP hS ⊢
    have hP : va_P g vwCl [(oa, .inr (4, ov_ k1 k2 ba ca qm0 fr)), (qm0, .inl (cI, 9, .inl mx))] H := hP
    have hD : va_D A [(oa, .inr (4, ov_ k1 k2 ba ca qm0 fr)), (qm0, .inl (cI, 9, .inl mx))] := hD
    refine lv_if_eq (tgt := 22) hx hb dX4_firstLeavesSecond_15 (by decide) (fun c2 => ?_) (fun c2 => ?_)
    · refine lv_iconst (v := 0) hx hb dX4_firstLeavesSecond_22 (by decide) ?_
      have hP9 := hP.sub (ws' := [(oa, .inr (4, ov_ k1 k2 ba ca qm0 fr)), (qm0, .inl (cI, 9, .inl mx))]) [0, 1] rfl
      have hD9 := hD.sub (ws' := [(oa, .inr (4, ov_ k1 k2 ba ca qm0 fr)), (qm0, .inl (cI, 9, .inl mx))]) [0, 1] (by decide) rfl
      exact W.zret (v := 0) (ty := .boolean) hx hb hr (by decide +kernel) (fun t ht hW => ⟨⟨0, (), rfl, by (try simp only [hw1, hw2] at c1 c2); simp [fls_, c1, c2, hw1, hw2], by rw [ht]; exact hP9, va_K.moved hW.alike hK, hD9⟩, hS.F ht⟩) hS.2.2 dX4_firstLeavesSecond_23
    · refine lv_iconst (v := 1) hx hb dX4_firstLeavesSecond_18 (by decide) ?_
      refine lv_goto (tgt := 23) hx hb dX4_firstLeavesSecond_19 (by decide) ?_
      have hP9 := hP.sub (ws' := [(oa, .inr (4, ov_ k1 k2 ba ca qm0 fr)), (qm0, .inl (cI, 9, .inl mx))]) [0, 1] rfl
      have hD9 := hD.sub (ws' := [(oa, .inr (4, ov_ k1 k2 ba ca qm0 fr)), (qm0, .inl (cI, 9, .inl mx))]) [0, 1] (by decide) rfl
      exact W.zret (v := 1) (ty := .boolean) hx hb hr (by decide +kernel) (fun t ht hW => ⟨⟨1, (), rfl, by (try simp only [hw1, hw2] at c1 c2); simp [fls_, c1, c2, hw1, hw2], by rw [ht]; exact hP9, va_K.moved hW.alike hK, hD9⟩, hS.F ht⟩) hS.2.2 dX4_firstLeavesSecond_23

set_option maxHeartbeats 1000000 in
set_option maxRecDepth 100000 in
theorem kX4_secondLeavesFirst (l : Launch) (g : va_G) (cI cJ cZ : ClassId) (sz : Nat) (oa : Nat) (k1 : Nat) (k2 : Nat) (ba : Nat) (ca : Nat) (qm0 : Nat) (fr : Int32) (mx : Nat → Int32)  : Met l yX4_secondLeavesFirst wsX4_secondLeavesFirst ({ frames := 2, cells := 0, slots := 0, locals := 44 }) (pc_ g cI cJ cZ [.ref oa] [(oa, .inr (4, ov_ k1 k2 ba ca qm0 fr)), (qm0, .inl (cI, 9, .inl mx))] sz) (va_Qi (fun (r : Int32) (_ : Unit) => r = slf_ mx) (fun (_ : Unit) t => wd_ g cI cJ cZ (va_A [(oa, .inr (4, ov_ k1 k2 ba ca qm0 fr)), (qm0, .inl (cI, 9, .inl mx))] sz) [(oa, .inr (4, ov_ k1 k2 ba ca qm0 fr)), (qm0, .inl (cI, 9, .inl mx))] t) (va_A [(oa, .inr (4, ov_ k1 k2 ba ca qm0 fr)), (qm0, .inl (cI, 9, .inl mx))] sz)) (0) (0) (va_A [(oa, .inr (4, ov_ k1 k2 ba ca qm0 fr)), (qm0, .inl (cI, 9, .inl mx))] sz) := by
  refine Met.ofW (cc := cX4_secondLeavesFirst) (maxL := 1) (ret := (some .boolean)) (by decide) rfl ?_
  intro p e s m args below meth c s₁ B hml hv
  obtain ⟨rfl, hsz, hP, hK, hD0⟩ := hv
  have hx := B.exec
  have hb := B.bytes
  have hr := B.returns
  have hts := atoms_spec (ws := wsX4_secondLeavesFirst) B.pre
  have hown : s.vm.findClass RX4 = some m.cls := findClass_of_methodNamed B.named
  have hlocks := B.notSynchronized
  subst hsz
  have hD := hD0.self (sz := s.heap.size)
  generalize hAe : va_A [(oa, .inr (4, ov_ k1 k2 ba ca qm0 fr)), (qm0, .inl (cI, 9, .inl mx))] s.heap.size = A at hD ⊢
  have hA : ∀ q : Nat, s.heap.size ≤ q → A q := fun q h => by rw [← hAe]; exact Or.inr h
  have hS : va_S A s.heap s.heap [] := va_S.rf
  have hP : va_P g vwCl [(oa, .inr (4, ov_ k1 k2 ba ca qm0 fr)), (qm0, .inl (cI, 9, .inl mx))] s.heap := hP
  have hl := lv_entry ([.ref oa]) (n := 1) (Nat.le_of_ble_eq_true rfl)
  rw [lg_entry_eq]
  generalize (lg_sl ([.ref oa]) ++ List.replicate (1 - (lg_sl ([.ref oa])).length) Slot.unset).toArray = ls at hl ⊢
  have hl : lv_has ls 1 [(0, .ref oa)] := hl
  have hH0 : s.heap = s.heap := rfl
  refine lv_aload_n hx hb dX4_secondLeavesFirst_0 rfl (lv_at hl 0 rfl) ?_
  refine lv_iconst (v := 2) hx hb dX4_secondLeavesFirst_1 (by decide) ?_
  refine lv_iconst (v := 0) hx hb dX4_secondLeavesFirst_2 (by decide) ?_
  have hPc := hP.sub (ws' := [(oa, .inr (4, ov_ k1 k2 ba ca qm0 fr)), (qm0, .inl (cI, 9, .inl mx))]) [0, 1] rfl
  have hDc := hD.sub (ws' := [(oa, .inr (4, ov_ k1 k2 ba ca qm0 fr)), (qm0, .inl (cI, 9, .inl mx))]) [0, 1] (by decide) rfl
  have hFc := va_free (wc := [(oa, .inr (4, ov_ k1 k2 ba ca qm0 fr)), (qm0, .inl (cI, 9, .inl mx))]) hD hS hA [0, 1] rfl
  refine va_calli (va_runV (As := [.int 2, .int 0]) (rest := []) ⟨hx, hb, hml, hown, hts⟩ (kX4_has l g cI cJ cZ s.heap.size oa k1 k2 ba ca qm0 fr mx 2 0 t3_2 t3_0) (cwV 2 hts gX4_secondLeavesFirst_X4_has rfl rfl rfl (by decide +kernel) ⟨Nat.le_of_ble_eq_true rfl, Nat.le_of_ble_eq_true rfl⟩) (pv_ hK hPc hDc (va_recv hK hPc (ci := 4) (q0 := 0) rfl rfl)) rfl rfl hl.1 rfl (lv_room (Nat.le_of_ble_eq_true rfl)) dX4_secondLeavesFirst_3 ⟨Nat.zero_le _, Nat.zero_le _⟩) hS (fun q _ h => hFc q h) hFc (fun r1 u t H1 locs ht hvm hw1 hB hz1 hk1 hS => ?_)
  obtain ⟨hP1, hK1, hD1⟩ := hB
  rw [ht] at hP1
  obtain ⟨hP, hD⟩ := va_join (wr := []) (w1 := [(oa, .inr (4, ov_ k1 k2 ba ca qm0 fr)), (qm0, .inl (cI, 9, .inl mx))]) hP hD [0, 1] [] rfl rfl (by decide) (by decide) hk1 hFc hP1 hD1
  clear hPc hDc hFc hP1 hD1 hK1 hk1 hz1 hvm ht
  generalize H1 = H at hP hS ⊢
  have hP : va_P g vwCl [(oa, .inr (4, ov_ k1 k2 ba ca qm0 fr)), (qm0, .inl (cI, 9, .inl mx))] H := hP
  have hD : va_D A [(oa, .inr (4, ov_ k1 k2 ba ca qm0 fr)), (qm0, .inl (cI, 9, .inl mx))] := hD
  refine lv_if_ne (tgt := 18) hx hb dX4_secondLeavesFirst_6 (by decide) (fun c1 => ?_) (fun c1 => ?_)
  · refine lv_iconst (v := 1) hx hb dX4_secondLeavesFirst_18 (by decide) ?_
    refine lv_goto (tgt := 23) hx hb dX4_secondLeavesFirst_19 (by decide) ?_
    have hP9 := hP.sub (ws' := [(oa, .inr (4, ov_ k1 k2 ba ca qm0 fr)), (qm0, .inl (cI, 9, .inl mx))]) [0, 1] rfl
    have hD9 := hD.sub (ws' := [(oa, .inr (4, ov_ k1 k2 ba ca qm0 fr)), (qm0, .inl (cI, 9, .inl mx))]) [0, 1] (by decide) rfl
    exact W.zret (v := 1) (ty := .boolean) hx hb hr (by decide +kernel) (fun t ht hW => ⟨⟨1, (), rfl, by (try simp only [hw1] at c1); simp [slf_, c1, hw1], by rw [ht]; exact hP9, va_K.moved hW.alike hK, hD9⟩, hS.F ht⟩) hS.2.2 dX4_secondLeavesFirst_23
  · refine lv_aload_n hx hb dX4_secondLeavesFirst_9 rfl (lv_at hl 0 rfl) ?_
    refine lv_iconst (v := 2) hx hb dX4_secondLeavesFirst_10 (by decide) ?_
    refine lv_iconst (v := 1) hx hb dX4_secondLeavesFirst_11 (by decide) ?_
    have hPc := hP.sub (ws' := [(oa, .inr (4, ov_ k1 k2 ba ca qm0 fr)), (qm0, .inl (cI, 9, .inl mx))]) [0, 1] rfl
    have hDc := hD.sub (ws' := [(oa, .inr (4, ov_ k1 k2 ba ca qm0 fr)), (qm0, .inl (cI, 9, .inl mx))]) [0, 1] (by decide) rfl
    have hFc := va_free (wc := [(oa, .inr (4, ov_ k1 k2 ba ca qm0 fr)), (qm0, .inl (cI, 9, .inl mx))]) hD hS hA [0, 1] rfl
    refine va_calli (va_runV (As := [.int 2, .int 1]) (rest := []) ⟨hx, hb, hml, hown, hts⟩ (kX4_has l g cI cJ cZ H.size oa k1 k2 ba ca qm0 fr mx 2 1 t3_2 t3_1) (cwV 2 hts gX4_secondLeavesFirst_X4_has rfl rfl rfl (by decide +kernel) ⟨Nat.le_of_ble_eq_true rfl, Nat.le_of_ble_eq_true rfl⟩) (pv_ hK hPc hDc (va_recv hK hPc (ci := 4) (q0 := 0) rfl rfl)) rfl rfl hl.1 rfl (lv_room (Nat.le_of_ble_eq_true rfl)) dX4_secondLeavesFirst_12 ⟨Nat.zero_le _, Nat.zero_le _⟩) hS (fun q _ h => hFc q h) hFc (fun r2 u t H1 locs ht hvm hw2 hB hz1 hk1 hS => ?_)
    obtain ⟨hP1, hK1, hD1⟩ := hB
    rw [ht] at hP1
    obtain ⟨hP, hD⟩ := va_join (wr := []) (w1 := [(oa, .inr (4, ov_ k1 k2 ba ca qm0 fr)), (qm0, .inl (cI, 9, .inl mx))]) hP hD [0, 1] [] rfl rfl (by decide) (by decide) hk1 hFc hP1 hD1
    clear hPc hDc hFc hP1 hD1 hK1 hk1 hz1 hvm ht
    generalize H1 = H at hP hS ⊢
    have hP : va_P g vwCl [(oa, .inr (4, ov_ k1 k2 ba ca qm0 fr)), (qm0, .inl (cI, 9, .inl mx))] H := hP
    have hD : va_D A [(oa, .inr (4, ov_ k1 k2 ba ca qm0 fr)), (qm0, .inl (cI, 9, .inl mx))] := hD
    refine lv_if_eq (tgt := 22) hx hb dX4_secondLeavesFirst_15 (by decide) (fun c2 => ?_) (fun c2 => ?_)
    · refine lv_iconst (v := 0) hx hb dX4_secondLeavesFirst_22 (by decide) ?_
      have hP9 := hP.sub (ws' := [(oa, .inr (4, ov_ k1 k2 ba ca qm0 fr)), (qm0, .inl (cI, 9, .inl mx))]) [0, 1] rfl
      have hD9 := hD.sub (ws' := [(oa, .inr (4, ov_ k1 k2 ba ca qm0 fr)), (qm0, .inl (cI, 9, .inl mx))]) [0, 1] (by decide) rfl
      exact W.zret (v := 0) (ty := .boolean) hx hb hr (by decide +kernel) (fun t ht hW => ⟨⟨0, (), rfl, by (try simp only [hw1, hw2] at c1 c2); simp [slf_, c1, c2, hw1, hw2], by rw [ht]; exact hP9, va_K.moved hW.alike hK, hD9⟩, hS.F ht⟩) hS.2.2 dX4_secondLeavesFirst_23
    · refine lv_iconst (v := 1) hx hb dX4_secondLeavesFirst_18 (by decide) ?_
      refine lv_goto (tgt := 23) hx hb dX4_secondLeavesFirst_19 (by decide) ?_
      have hP9 := hP.sub (ws' := [(oa, .inr (4, ov_ k1 k2 ba ca qm0 fr)), (qm0, .inl (cI, 9, .inl mx))]) [0, 1] rfl
      have hD9 := hD.sub (ws' := [(oa, .inr (4, ov_ k1 k2 ba ca qm0 fr)), (qm0, .inl (cI, 9, .inl mx))]) [0, 1] (by decide) rfl
      exact W.zret (v := 1) (ty := .boolean) hx hb hr (by decide +kernel) (fun t ht hW => ⟨⟨1, (), rfl, by (try simp only [hw1, hw2] at c1 c2); simp [slf_, c1, c2, hw1, hw2], by rw [ht]; exact hP9, va_K.moved hW.alike hK, hD9⟩, hS.F ht⟩) hS.2.2 dX4_secondLeavesFirst_23

set_option maxHeartbeats 1000000 in
set_option maxRecDepth 100000 in
theorem kX4_areEqual (l : Launch) (g : va_G) (cI cJ cZ : ClassId) (sz : Nat) (oa : Nat) (k1 : Nat) (k2 : Nat) (ba : Nat) (ca : Nat) (qm0 : Nat) (fr : Int32) (mx : Nat → Int32)  : Met l yX4_areEqual wsX4_areEqual ({ frames := 3, cells := 0, slots := 0, locals := 64 }) (pc_ g cI cJ cZ [.ref oa] [(oa, .inr (4, ov_ k1 k2 ba ca qm0 fr)), (qm0, .inl (cI, 9, .inl mx))] sz) (va_Qi (fun (r : Int32) (_ : Unit) => r = aeq_ mx) (fun (_ : Unit) t => wd_ g cI cJ cZ (va_A [(oa, .inr (4, ov_ k1 k2 ba ca qm0 fr)), (qm0, .inl (cI, 9, .inl mx))] sz) [(oa, .inr (4, ov_ k1 k2 ba ca qm0 fr)), (qm0, .inl (cI, 9, .inl mx))] t) (va_A [(oa, .inr (4, ov_ k1 k2 ba ca qm0 fr)), (qm0, .inl (cI, 9, .inl mx))] sz)) (0) (0) (va_A [(oa, .inr (4, ov_ k1 k2 ba ca qm0 fr)), (qm0, .inl (cI, 9, .inl mx))] sz) := by
  refine Met.ofW (cc := cX4_areEqual) (maxL := 1) (ret := (some .boolean)) (by decide) rfl ?_
  intro p e s m args below meth c s₁ B hml hv
  obtain ⟨rfl, hsz, hP, hK, hD0⟩ := hv
  have hx := B.exec
  have hb := B.bytes
  have hr := B.returns
  have hts := atoms_spec (ws := wsX4_areEqual) B.pre
  have hown : s.vm.findClass RX4 = some m.cls := findClass_of_methodNamed B.named
  have hlocks := B.notSynchronized
  subst hsz
  have hD := hD0.self (sz := s.heap.size)
  generalize hAe : va_A [(oa, .inr (4, ov_ k1 k2 ba ca qm0 fr)), (qm0, .inl (cI, 9, .inl mx))] s.heap.size = A at hD ⊢
  have hA : ∀ q : Nat, s.heap.size ≤ q → A q := fun q h => by rw [← hAe]; exact Or.inr h
  have hS : va_S A s.heap s.heap [] := va_S.rf
  have hP : va_P g vwCl [(oa, .inr (4, ov_ k1 k2 ba ca qm0 fr)), (qm0, .inl (cI, 9, .inl mx))] s.heap := hP
  have hl := lv_entry ([.ref oa]) (n := 1) (Nat.le_of_ble_eq_true rfl)
  rw [lg_entry_eq]
  generalize (lg_sl ([.ref oa]) ++ List.replicate (1 - (lg_sl ([.ref oa])).length) Slot.unset).toArray = ls at hl ⊢
  have hl : lv_has ls 1 [(0, .ref oa)] := hl
  have hH0 : s.heap = s.heap := rfl
  refine lv_aload_n hx hb dX4_areEqual_0 rfl (lv_at hl 0 rfl) ?_
  refine lv_iconst (v := 0) hx hb dX4_areEqual_1 (by decide) ?_
  have hPc := hP.sub (ws' := [(oa, .inr (4, ov_ k1 k2 ba ca qm0 fr)), (qm0, .inl (cI, 9, .inl mx))]) [0, 1] rfl
  have hDc := hD.sub (ws' := [(oa, .inr (4, ov_ k1 k2 ba ca qm0 fr)), (qm0, .inl (cI, 9, .inl mx))]) [0, 1] (by decide) rfl
  have hFc := va_free (wc := [(oa, .inr (4, ov_ k1 k2 ba ca qm0 fr)), (qm0, .inl (cI, 9, .inl mx))]) hD hS hA [0, 1] rfl
  refine va_calli (va_runV (As := [.int 0]) (rest := []) ⟨hx, hb, hml, hown, hts⟩ (kX4_dimensionInFirst l g cI cJ cZ s.heap.size oa k1 k2 ba ca qm0 fr mx 0 t3_0) (cwV 1 hts gX4_areEqual_X4_dimensionInFirst rfl rfl rfl (by decide +kernel) ⟨Nat.le_of_ble_eq_true rfl, Nat.le_of_ble_eq_true rfl⟩) (pv_ hK hPc hDc (va_recv hK hPc (ci := 4) (q0 := 0) rfl rfl)) rfl rfl hl.1 rfl (lv_room (Nat.le_of_ble_eq_true rfl)) dX4_areEqual_2 ⟨Nat.zero_le _, Nat.zero_le _⟩) hS (fun q _ h => hFc q h) hFc (fun r1 u t H1 locs ht hvm hw1 hB hz1 hk1 hS => ?_)
  obtain ⟨hP1, hK1, hD1⟩ := hB
  rw [ht] at hP1
  obtain ⟨hP, hD⟩ := va_join (wr := []) (w1 := [(oa, .inr (4, ov_ k1 k2 ba ca qm0 fr)), (qm0, .inl (cI, 9, .inl mx))]) hP hD [0, 1] [] rfl rfl (by decide) (by decide) hk1 hFc hP1 hD1
  clear hPc hDc hFc hP1 hD1 hK1 hk1 hz1 hvm ht
  generalize H1 = H at hP hS ⊢
  have hP : va_P g vwCl [(oa, .inr (4, ov_ k1 k2 ba ca qm0 fr)), (qm0, .inl (cI, 9, .inl mx))] H := hP
  have hD : va_D A [(oa, .inr (4, ov_ k1 k2 ba ca qm0 fr)), (qm0, .inl (cI, 9, .inl mx))] := hD
  refine lv_iconst (v := (-1)) hx hb dX4_areEqual_5 (by decide) ?_
  refine lv_icmp_ne (tgt := 20) hx hb dX4_areEqual_6 (by decide) (fun c1 => ?_) (fun c1 => ?_)
  · refine lv_aload_n hx hb dX4_areEqual_20 rfl (lv_at hl 0 rfl) ?_
    refine lv_iconst (v := 0) hx hb dX4_areEqual_21 (by decide) ?_
    refine lv_iconst (v := 0) hx hb dX4_areEqual_22 (by decide) ?_
    have hPc := hP.sub (ws' := [(oa, .inr (4, ov_ k1 k2 ba ca qm0 fr)), (qm0, .inl (cI, 9, .inl mx))]) [0, 1] rfl
    have hDc := hD.sub (ws' := [(oa, .inr (4, ov_ k1 k2 ba ca qm0 fr)), (qm0, .inl (cI, 9, .inl mx))]) [0, 1] (by decide) rfl
    have hFc := va_free (wc := [(oa, .inr (4, ov_ k1 k2 ba ca qm0 fr)), (qm0, .inl (cI, 9, .inl mx))]) hD hS hA [0, 1] rfl
    refine va_calli (va_runV (As := [.int 0, .int 0]) (rest := []) ⟨hx, hb, hml, hown, hts⟩ (kX4_has l g cI cJ cZ H.size oa k1 k2 ba ca qm0 fr mx 0 0 t3_0 t3_0) (cwV 2 hts gX4_areEqual_X4_has rfl rfl rfl (by decide +kernel) ⟨Nat.le_of_ble_eq_true rfl, Nat.le_of_ble_eq_true rfl⟩) (pv_ hK hPc hDc (va_recv hK hPc (ci := 4) (q0 := 0) rfl rfl)) rfl rfl hl.1 rfl (lv_room (Nat.le_of_ble_eq_true rfl)) dX4_areEqual_23 ⟨Nat.zero_le _, Nat.zero_le _⟩) hS (fun q _ h => hFc q h) hFc (fun r2 u t H1 locs ht hvm hw2 hB hz1 hk1 hS => ?_)
    obtain ⟨hP1, hK1, hD1⟩ := hB
    rw [ht] at hP1
    obtain ⟨hP, hD⟩ := va_join (wr := []) (w1 := [(oa, .inr (4, ov_ k1 k2 ba ca qm0 fr)), (qm0, .inl (cI, 9, .inl mx))]) hP hD [0, 1] [] rfl rfl (by decide) (by decide) hk1 hFc hP1 hD1
    clear hPc hDc hFc hP1 hD1 hK1 hk1 hz1 hvm ht
    generalize H1 = H at hP hS ⊢
    have hP : va_P g vwCl [(oa, .inr (4, ov_ k1 k2 ba ca qm0 fr)), (qm0, .inl (cI, 9, .inl mx))] H := hP
    have hD : va_D A [(oa, .inr (4, ov_ k1 k2 ba ca qm0 fr)), (qm0, .inl (cI, 9, .inl mx))] := hD
    refine lv_if_eq (tgt := 47) hx hb dX4_areEqual_26 (by decide) (fun c2 => ?_) (fun c2 => ?_)
    · refine lv_iconst (v := 0) hx hb dX4_areEqual_47 (by decide) ?_
      have hP9 := hP.sub (ws' := [(oa, .inr (4, ov_ k1 k2 ba ca qm0 fr)), (qm0, .inl (cI, 9, .inl mx))]) [0, 1] rfl
      have hD9 := hD.sub (ws' := [(oa, .inr (4, ov_ k1 k2 ba ca qm0 fr)), (qm0, .inl (cI, 9, .inl mx))]) [0, 1] (by decide) rfl
      exact W.zret (v := 0) (ty := .boolean) hx hb hr (by decide +kernel) (fun t ht hW => ⟨⟨0, (), rfl, by (try simp only [hw1, hw2] at c1 c2); simp [aeq_, c1, c2, hw1, hw2], by rw [ht]; exact hP9, va_K.moved hW.alike hK, hD9⟩, hS.F ht⟩) hS.2.2 dX4_areEqual_48
    · refine lv_aload_n hx hb dX4_areEqual_29 rfl (lv_at hl 0 rfl) ?_
      have hPc := hP.sub (ws' := [(oa, .inr (4, ov_ k1 k2 ba ca qm0 fr)), (qm0, .inl (cI, 9, .inl mx))]) [0, 1] rfl
      have hDc := hD.sub (ws' := [(oa, .inr (4, ov_ k1 k2 ba ca qm0 fr)), (qm0, .inl (cI, 9, .inl mx))]) [0, 1] (by decide) rfl
      have hFc := va_free (wc := [(oa, .inr (4, ov_ k1 k2 ba ca qm0 fr)), (qm0, .inl (cI, 9, .inl mx))]) hD hS hA [0, 1] rfl
      refine va_calli (va_runV (As := []) (rest := []) ⟨hx, hb, hml, hown, hts⟩ (kX4_firstLeavesSecond l g cI cJ cZ H.size oa k1 k2 ba ca qm0 fr mx) (cwV 0 hts gX4_areEqual_X4_firstLeavesSecond rfl rfl rfl (by decide +kernel) ⟨Nat.le_of_ble_eq_true rfl, Nat.le_of_ble_eq_true rfl⟩) (pv_ hK hPc hDc (va_recv hK hPc (ci := 4) (q0 := 0) rfl rfl)) rfl rfl hl.1 rfl (lv_room (Nat.le_of_ble_eq_true rfl)) dX4_areEqual_30 ⟨Nat.zero_le _, Nat.zero_le _⟩) hS (fun q _ h => hFc q h) hFc (fun r3 u t H1 locs ht hvm hw3 hB hz1 hk1 hS => ?_)
      obtain ⟨hP1, hK1, hD1⟩ := hB
      rw [ht] at hP1
      obtain ⟨hP, hD⟩ := va_join (wr := []) (w1 := [(oa, .inr (4, ov_ k1 k2 ba ca qm0 fr)), (qm0, .inl (cI, 9, .inl mx))]) hP hD [0, 1] [] rfl rfl (by decide) (by decide) hk1 hFc hP1 hD1
      clear hPc hDc hFc hP1 hD1 hK1 hk1 hz1 hvm ht
      generalize H1 = H at hP hS ⊢
      have hP : va_P g vwCl [(oa, .inr (4, ov_ k1 k2 ba ca qm0 fr)), (qm0, .inl (cI, 9, .inl mx))] H := hP
      have hD : va_D A [(oa, .inr (4, ov_ k1 k2 ba ca qm0 fr)), (qm0, .inl (cI, 9, .inl mx))] := hD
      refine lv_if_ne (tgt := 47) hx hb dX4_areEqual_33 (by decide) (fun c3 => ?_) (fun c3 => ?_)
      · refine lv_iconst (v := 0) hx hb dX4_areEqual_47 (by decide) ?_
        have hP9 := hP.sub (ws' := [(oa, .inr (4, ov_ k1 k2 ba ca qm0 fr)), (qm0, .inl (cI, 9, .inl mx))]) [0, 1] rfl
        have hD9 := hD.sub (ws' := [(oa, .inr (4, ov_ k1 k2 ba ca qm0 fr)), (qm0, .inl (cI, 9, .inl mx))]) [0, 1] (by decide) rfl
        exact W.zret (v := 0) (ty := .boolean) hx hb hr (by decide +kernel) (fun t ht hW => ⟨⟨0, (), rfl, by (try simp only [hw1, hw2, hw3] at c1 c2 c3); simp [aeq_, c1, c2, c3, hw1, hw2, hw3], by rw [ht]; exact hP9, va_K.moved hW.alike hK, hD9⟩, hS.F ht⟩) hS.2.2 dX4_areEqual_48
      · refine lv_aload_n hx hb dX4_areEqual_36 rfl (lv_at hl 0 rfl) ?_
        have hPc := hP.sub (ws' := [(oa, .inr (4, ov_ k1 k2 ba ca qm0 fr)), (qm0, .inl (cI, 9, .inl mx))]) [0, 1] rfl
        have hDc := hD.sub (ws' := [(oa, .inr (4, ov_ k1 k2 ba ca qm0 fr)), (qm0, .inl (cI, 9, .inl mx))]) [0, 1] (by decide) rfl
        have hFc := va_free (wc := [(oa, .inr (4, ov_ k1 k2 ba ca qm0 fr)), (qm0, .inl (cI, 9, .inl mx))]) hD hS hA [0, 1] rfl
        refine va_calli (va_runV (As := []) (rest := []) ⟨hx, hb, hml, hown, hts⟩ (kX4_secondLeavesFirst l g cI cJ cZ H.size oa k1 k2 ba ca qm0 fr mx) (cwV 0 hts gX4_areEqual_X4_secondLeavesFirst rfl rfl rfl (by decide +kernel) ⟨Nat.le_of_ble_eq_true rfl, Nat.le_of_ble_eq_true rfl⟩) (pv_ hK hPc hDc (va_recv hK hPc (ci := 4) (q0 := 0) rfl rfl)) rfl rfl hl.1 rfl (lv_room (Nat.le_of_ble_eq_true rfl)) dX4_areEqual_37 ⟨Nat.zero_le _, Nat.zero_le _⟩) hS (fun q _ h => hFc q h) hFc (fun r4 u t H1 locs ht hvm hw4 hB hz1 hk1 hS => ?_)
        obtain ⟨hP1, hK1, hD1⟩ := hB
        rw [ht] at hP1
        obtain ⟨hP, hD⟩ := va_join (wr := []) (w1 := [(oa, .inr (4, ov_ k1 k2 ba ca qm0 fr)), (qm0, .inl (cI, 9, .inl mx))]) hP hD [0, 1] [] rfl rfl (by decide) (by decide) hk1 hFc hP1 hD1
        clear hPc hDc hFc hP1 hD1 hK1 hk1 hz1 hvm ht
        generalize H1 = H at hP hS ⊢
        have hP : va_P g vwCl [(oa, .inr (4, ov_ k1 k2 ba ca qm0 fr)), (qm0, .inl (cI, 9, .inl mx))] H := hP
        have hD : va_D A [(oa, .inr (4, ov_ k1 k2 ba ca qm0 fr)), (qm0, .inl (cI, 9, .inl mx))] := hD
        refine lv_if_ne (tgt := 47) hx hb dX4_areEqual_40 (by decide) (fun c4 => ?_) (fun c4 => ?_)
        · refine lv_iconst (v := 0) hx hb dX4_areEqual_47 (by decide) ?_
          have hP9 := hP.sub (ws' := [(oa, .inr (4, ov_ k1 k2 ba ca qm0 fr)), (qm0, .inl (cI, 9, .inl mx))]) [0, 1] rfl
          have hD9 := hD.sub (ws' := [(oa, .inr (4, ov_ k1 k2 ba ca qm0 fr)), (qm0, .inl (cI, 9, .inl mx))]) [0, 1] (by decide) rfl
          exact W.zret (v := 0) (ty := .boolean) hx hb hr (by decide +kernel) (fun t ht hW => ⟨⟨0, (), rfl, by (try simp only [hw1, hw2, hw3, hw4] at c1 c2 c3 c4); simp [aeq_, c1, c2, c3, c4, hw1, hw2, hw3, hw4], by rw [ht]; exact hP9, va_K.moved hW.alike hK, hD9⟩, hS.F ht⟩) hS.2.2 dX4_areEqual_48
        · refine lv_iconst (v := 1) hx hb dX4_areEqual_43 (by decide) ?_
          refine lv_goto (tgt := 48) hx hb dX4_areEqual_44 (by decide) ?_
          have hP9 := hP.sub (ws' := [(oa, .inr (4, ov_ k1 k2 ba ca qm0 fr)), (qm0, .inl (cI, 9, .inl mx))]) [0, 1] rfl
          have hD9 := hD.sub (ws' := [(oa, .inr (4, ov_ k1 k2 ba ca qm0 fr)), (qm0, .inl (cI, 9, .inl mx))]) [0, 1] (by decide) rfl
          exact W.zret (v := 1) (ty := .boolean) hx hb hr (by decide +kernel) (fun t ht hW => ⟨⟨1, (), rfl, by (try simp only [hw1, hw2, hw3, hw4] at c1 c2 c3 c4); simp [aeq_, c1, c2, c3, c4, hw1, hw2, hw3, hw4], by rw [ht]; exact hP9, va_K.moved hW.alike hK, hD9⟩, hS.F ht⟩) hS.2.2 dX4_areEqual_48
  · refine lv_aload_n hx hb dX4_areEqual_9 rfl (lv_at hl 0 rfl) ?_
    refine lv_iconst (v := 0) hx hb dX4_areEqual_10 (by decide) ?_
    have hPc := hP.sub (ws' := [(oa, .inr (4, ov_ k1 k2 ba ca qm0 fr)), (qm0, .inl (cI, 9, .inl mx))]) [0, 1] rfl
    have hDc := hD.sub (ws' := [(oa, .inr (4, ov_ k1 k2 ba ca qm0 fr)), (qm0, .inl (cI, 9, .inl mx))]) [0, 1] (by decide) rfl
    have hFc := va_free (wc := [(oa, .inr (4, ov_ k1 k2 ba ca qm0 fr)), (qm0, .inl (cI, 9, .inl mx))]) hD hS hA [0, 1] rfl
    refine va_calli (va_runV (As := [.int 0]) (rest := []) ⟨hx, hb, hml, hown, hts⟩ (kX4_dimensionInSecond l g cI cJ cZ H.size oa k1 k2 ba ca qm0 fr mx 0 t3_0) (cwV 1 hts gX4_areEqual_X4_dimensionInSecond rfl rfl rfl (by decide +kernel) ⟨Nat.le_of_ble_eq_true rfl, Nat.le_of_ble_eq_true rfl⟩) (pv_ hK hPc hDc (va_recv hK hPc (ci := 4) (q0 := 0) rfl rfl)) rfl rfl hl.1 rfl (lv_room (Nat.le_of_ble_eq_true rfl)) dX4_areEqual_11 ⟨Nat.zero_le _, Nat.zero_le _⟩) hS (fun q _ h => hFc q h) hFc (fun r2 u t H1 locs ht hvm hw2 hB hz1 hk1 hS => ?_)
    obtain ⟨hP1, hK1, hD1⟩ := hB
    rw [ht] at hP1
    obtain ⟨hP, hD⟩ := va_join (wr := []) (w1 := [(oa, .inr (4, ov_ k1 k2 ba ca qm0 fr)), (qm0, .inl (cI, 9, .inl mx))]) hP hD [0, 1] [] rfl rfl (by decide) (by decide) hk1 hFc hP1 hD1
    clear hPc hDc hFc hP1 hD1 hK1 hk1 hz1 hvm ht
    generalize H1 = H at hP hS ⊢
    have hP : va_P g vwCl [(oa, .inr (4, ov_ k1 k2 ba ca qm0 fr)), (qm0, .inl (cI, 9, .inl mx))] H := hP
    have hD : va_D A [(oa, .inr (4, ov_ k1 k2 ba ca qm0 fr)), (qm0, .inl (cI, 9, .inl mx))] := hD
    refine lv_iconst (v := (-1)) hx hb dX4_areEqual_14 (by decide) ?_
    refine lv_icmp_ne (tgt := 20) hx hb dX4_areEqual_15 (by decide) (fun c2 => ?_) (fun c2 => ?_)
    · refine lv_aload_n hx hb dX4_areEqual_20 rfl (lv_at hl 0 rfl) ?_
      refine lv_iconst (v := 0) hx hb dX4_areEqual_21 (by decide) ?_
      refine lv_iconst (v := 0) hx hb dX4_areEqual_22 (by decide) ?_
      have hPc := hP.sub (ws' := [(oa, .inr (4, ov_ k1 k2 ba ca qm0 fr)), (qm0, .inl (cI, 9, .inl mx))]) [0, 1] rfl
      have hDc := hD.sub (ws' := [(oa, .inr (4, ov_ k1 k2 ba ca qm0 fr)), (qm0, .inl (cI, 9, .inl mx))]) [0, 1] (by decide) rfl
      have hFc := va_free (wc := [(oa, .inr (4, ov_ k1 k2 ba ca qm0 fr)), (qm0, .inl (cI, 9, .inl mx))]) hD hS hA [0, 1] rfl
      refine va_calli (va_runV (As := [.int 0, .int 0]) (rest := []) ⟨hx, hb, hml, hown, hts⟩ (kX4_has l g cI cJ cZ H.size oa k1 k2 ba ca qm0 fr mx 0 0 t3_0 t3_0) (cwV 2 hts gX4_areEqual_X4_has rfl rfl rfl (by decide +kernel) ⟨Nat.le_of_ble_eq_true rfl, Nat.le_of_ble_eq_true rfl⟩) (pv_ hK hPc hDc (va_recv hK hPc (ci := 4) (q0 := 0) rfl rfl)) rfl rfl hl.1 rfl (lv_room (Nat.le_of_ble_eq_true rfl)) dX4_areEqual_23 ⟨Nat.zero_le _, Nat.zero_le _⟩) hS (fun q _ h => hFc q h) hFc (fun r3 u t H1 locs ht hvm hw3 hB hz1 hk1 hS => ?_)
      obtain ⟨hP1, hK1, hD1⟩ := hB
      rw [ht] at hP1
      obtain ⟨hP, hD⟩ := va_join (wr := []) (w1 := [(oa, .inr (4, ov_ k1 k2 ba ca qm0 fr)), (qm0, .inl (cI, 9, .inl mx))]) hP hD [0, 1] [] rfl rfl (by decide) (by decide) hk1 hFc hP1 hD1
      clear hPc hDc hFc hP1 hD1 hK1 hk1 hz1 hvm ht
      generalize H1 = H at hP hS ⊢
      have hP : va_P g vwCl [(oa, .inr (4, ov_ k1 k2 ba ca qm0 fr)), (qm0, .inl (cI, 9, .inl mx))] H := hP
      have hD : va_D A [(oa, .inr (4, ov_ k1 k2 ba ca qm0 fr)), (qm0, .inl (cI, 9, .inl mx))] := hD
      refine lv_if_eq (tgt := 47) hx hb dX4_areEqual_26 (by decide) (fun c3 => ?_) (fun c3 => ?_)
      · refine lv_iconst (v := 0) hx hb dX4_areEqual_47 (by decide) ?_
        have hP9 := hP.sub (ws' := [(oa, .inr (4, ov_ k1 k2 ba ca qm0 fr)), (qm0, .inl (cI, 9, .inl mx))]) [0, 1] rfl
        have hD9 := hD.sub (ws' := [(oa, .inr (4, ov_ k1 k2 ba ca qm0 fr)), (qm0, .inl (cI, 9, .inl mx))]) [0, 1] (by decide) rfl
        exact W.zret (v := 0) (ty := .boolean) hx hb hr (by decide +kernel) (fun t ht hW => ⟨⟨0, (), rfl, by (try simp only [hw1, hw2, hw3] at c1 c2 c3); simp [aeq_, c1, c2, c3, hw1, hw2, hw3], by rw [ht]; exact hP9, va_K.moved hW.alike hK, hD9⟩, hS.F ht⟩) hS.2.2 dX4_areEqual_48
      · refine lv_aload_n hx hb dX4_areEqual_29 rfl (lv_at hl 0 rfl) ?_
        have hPc := hP.sub (ws' := [(oa, .inr (4, ov_ k1 k2 ba ca qm0 fr)), (qm0, .inl (cI, 9, .inl mx))]) [0, 1] rfl
        have hDc := hD.sub (ws' := [(oa, .inr (4, ov_ k1 k2 ba ca qm0 fr)), (qm0, .inl (cI, 9, .inl mx))]) [0, 1] (by decide) rfl
        have hFc := va_free (wc := [(oa, .inr (4, ov_ k1 k2 ba ca qm0 fr)), (qm0, .inl (cI, 9, .inl mx))]) hD hS hA [0, 1] rfl
        refine va_calli (va_runV (As := []) (rest := []) ⟨hx, hb, hml, hown, hts⟩ (kX4_firstLeavesSecond l g cI cJ cZ H.size oa k1 k2 ba ca qm0 fr mx) (cwV 0 hts gX4_areEqual_X4_firstLeavesSecond rfl rfl rfl (by decide +kernel) ⟨Nat.le_of_ble_eq_true rfl, Nat.le_of_ble_eq_true rfl⟩) (pv_ hK hPc hDc (va_recv hK hPc (ci := 4) (q0 := 0) rfl rfl)) rfl rfl hl.1 rfl (lv_room (Nat.le_of_ble_eq_true rfl)) dX4_areEqual_30 ⟨Nat.zero_le _, Nat.zero_le _⟩) hS (fun q _ h => hFc q h) hFc (fun r4 u t H1 locs ht hvm hw4 hB hz1 hk1 hS => ?_)
        obtain ⟨hP1, hK1, hD1⟩ := hB
        rw [ht] at hP1
        obtain ⟨hP, hD⟩ := va_join (wr := []) (w1 := [(oa, .inr (4, ov_ k1 k2 ba ca qm0 fr)), (qm0, .inl (cI, 9, .inl mx))]) hP hD [0, 1] [] rfl rfl (by decide) (by decide) hk1 hFc hP1 hD1
        clear hPc hDc hFc hP1 hD1 hK1 hk1 hz1 hvm ht
        generalize H1 = H at hP hS ⊢
        have hP : va_P g vwCl [(oa, .inr (4, ov_ k1 k2 ba ca qm0 fr)), (qm0, .inl (cI, 9, .inl mx))] H := hP
        have hD : va_D A [(oa, .inr (4, ov_ k1 k2 ba ca qm0 fr)), (qm0, .inl (cI, 9, .inl mx))] := hD
        refine lv_if_ne (tgt := 47) hx hb dX4_areEqual_33 (by decide) (fun c4 => ?_) (fun c4 => ?_)
        · refine lv_iconst (v := 0) hx hb dX4_areEqual_47 (by decide) ?_
          have hP9 := hP.sub (ws' := [(oa, .inr (4, ov_ k1 k2 ba ca qm0 fr)), (qm0, .inl (cI, 9, .inl mx))]) [0, 1] rfl
          have hD9 := hD.sub (ws' := [(oa, .inr (4, ov_ k1 k2 ba ca qm0 fr)), (qm0, .inl (cI, 9, .inl mx))]) [0, 1] (by decide) rfl
          exact W.zret (v := 0) (ty := .boolean) hx hb hr (by decide +kernel) (fun t ht hW => ⟨⟨0, (), rfl, by (try simp only [hw1, hw2, hw3, hw4] at c1 c2 c3 c4); simp [aeq_, c1, c2, c3, c4, hw1, hw2, hw3, hw4], by rw [ht]; exact hP9, va_K.moved hW.alike hK, hD9⟩, hS.F ht⟩) hS.2.2 dX4_areEqual_48
        · refine lv_aload_n hx hb dX4_areEqual_36 rfl (lv_at hl 0 rfl) ?_
          have hPc := hP.sub (ws' := [(oa, .inr (4, ov_ k1 k2 ba ca qm0 fr)), (qm0, .inl (cI, 9, .inl mx))]) [0, 1] rfl
          have hDc := hD.sub (ws' := [(oa, .inr (4, ov_ k1 k2 ba ca qm0 fr)), (qm0, .inl (cI, 9, .inl mx))]) [0, 1] (by decide) rfl
          have hFc := va_free (wc := [(oa, .inr (4, ov_ k1 k2 ba ca qm0 fr)), (qm0, .inl (cI, 9, .inl mx))]) hD hS hA [0, 1] rfl
          refine va_calli (va_runV (As := []) (rest := []) ⟨hx, hb, hml, hown, hts⟩ (kX4_secondLeavesFirst l g cI cJ cZ H.size oa k1 k2 ba ca qm0 fr mx) (cwV 0 hts gX4_areEqual_X4_secondLeavesFirst rfl rfl rfl (by decide +kernel) ⟨Nat.le_of_ble_eq_true rfl, Nat.le_of_ble_eq_true rfl⟩) (pv_ hK hPc hDc (va_recv hK hPc (ci := 4) (q0 := 0) rfl rfl)) rfl rfl hl.1 rfl (lv_room (Nat.le_of_ble_eq_true rfl)) dX4_areEqual_37 ⟨Nat.zero_le _, Nat.zero_le _⟩) hS (fun q _ h => hFc q h) hFc (fun r5 u t H1 locs ht hvm hw5 hB hz1 hk1 hS => ?_)
          obtain ⟨hP1, hK1, hD1⟩ := hB
          rw [ht] at hP1
          obtain ⟨hP, hD⟩ := va_join (wr := []) (w1 := [(oa, .inr (4, ov_ k1 k2 ba ca qm0 fr)), (qm0, .inl (cI, 9, .inl mx))]) hP hD [0, 1] [] rfl rfl (by decide) (by decide) hk1 hFc hP1 hD1
          clear hPc hDc hFc hP1 hD1 hK1 hk1 hz1 hvm ht
          generalize H1 = H at hP hS ⊢
          have hP : va_P g vwCl [(oa, .inr (4, ov_ k1 k2 ba ca qm0 fr)), (qm0, .inl (cI, 9, .inl mx))] H := hP
          have hD : va_D A [(oa, .inr (4, ov_ k1 k2 ba ca qm0 fr)), (qm0, .inl (cI, 9, .inl mx))] := hD
          refine lv_if_ne (tgt := 47) hx hb dX4_areEqual_40 (by decide) (fun c5 => ?_) (fun c5 => ?_)
          · refine lv_iconst (v := 0) hx hb dX4_areEqual_47 (by decide) ?_
            have hP9 := hP.sub (ws' := [(oa, .inr (4, ov_ k1 k2 ba ca qm0 fr)), (qm0, .inl (cI, 9, .inl mx))]) [0, 1] rfl
            have hD9 := hD.sub (ws' := [(oa, .inr (4, ov_ k1 k2 ba ca qm0 fr)), (qm0, .inl (cI, 9, .inl mx))]) [0, 1] (by decide) rfl
            exact W.zret (v := 0) (ty := .boolean) hx hb hr (by decide +kernel) (fun t ht hW => ⟨⟨0, (), rfl, by (try simp only [hw1, hw2, hw3, hw4, hw5] at c1 c2 c3 c4 c5); simp [aeq_, c1, c2, c3, c4, c5, hw1, hw2, hw3, hw4, hw5], by rw [ht]; exact hP9, va_K.moved hW.alike hK, hD9⟩, hS.F ht⟩) hS.2.2 dX4_areEqual_48
          · refine lv_iconst (v := 1) hx hb dX4_areEqual_43 (by decide) ?_
            refine lv_goto (tgt := 48) hx hb dX4_areEqual_44 (by decide) ?_
            have hP9 := hP.sub (ws' := [(oa, .inr (4, ov_ k1 k2 ba ca qm0 fr)), (qm0, .inl (cI, 9, .inl mx))]) [0, 1] rfl
            have hD9 := hD.sub (ws' := [(oa, .inr (4, ov_ k1 k2 ba ca qm0 fr)), (qm0, .inl (cI, 9, .inl mx))]) [0, 1] (by decide) rfl
            exact W.zret (v := 1) (ty := .boolean) hx hb hr (by decide +kernel) (fun t ht hW => ⟨⟨1, (), rfl, by (try simp only [hw1, hw2, hw3, hw4, hw5] at c1 c2 c3 c4 c5); simp [aeq_, c1, c2, c3, c4, c5, hw1, hw2, hw3, hw4, hw5], by rw [ht]; exact hP9, va_K.moved hW.alike hK, hD9⟩, hS.F ht⟩) hS.2.2 dX4_areEqual_48
    · refine lv_iconst (v := 1) hx hb dX4_areEqual_18 (by decide) ?_
      have hP9 := hP.sub (ws' := [(oa, .inr (4, ov_ k1 k2 ba ca qm0 fr)), (qm0, .inl (cI, 9, .inl mx))]) [0, 1] rfl
      have hD9 := hD.sub (ws' := [(oa, .inr (4, ov_ k1 k2 ba ca qm0 fr)), (qm0, .inl (cI, 9, .inl mx))]) [0, 1] (by decide) rfl
      exact W.zret (v := 1) (ty := .boolean) hx hb hr (by decide +kernel) (fun t ht hW => ⟨⟨1, (), rfl, by (try simp only [hw1, hw2] at c1 c2); simp [aeq_, c1, c2, hw1, hw2], by rw [ht]; exact hP9, va_K.moved hW.alike hK, hD9⟩, hS.F ht⟩) hS.2.2 dX4_areEqual_19

set_option maxHeartbeats 1000000 in
set_option maxRecDepth 100000 in
theorem kX4_doCross (l : Launch) (g : va_G) (cI cJ cZ : ClassId) (sz : Nat) (oa : Nat) (k1 : Nat) (k2 : Nat) (ba : Nat) (ca : Nat) (qm0 : Nat) (fr : Int32) (mx : Nat → Int32)  : Met l yX4_doCross wsX4_doCross ({ frames := 2, cells := 0, slots := 0, locals := 44 }) (pc_ g cI cJ cZ [.ref oa] [(oa, .inr (4, ov_ k1 k2 ba ca qm0 fr)), (qm0, .inl (cI, 9, .inl mx))] sz) (va_Qi (fun (r : Int32) (_ : Unit) => r = dcr_ mx) (fun (_ : Unit) t => wd_ g cI cJ cZ (va_A [(oa, .inr (4, ov_ k1 k2 ba ca qm0 fr)), (qm0, .inl (cI, 9, .inl mx))] sz) [(oa, .inr (4, ov_ k1 k2 ba ca qm0 fr)), (qm0, .inl (cI, 9, .inl mx))] t) (va_A [(oa, .inr (4, ov_ k1 k2 ba ca qm0 fr)), (qm0, .inl (cI, 9, .inl mx))] sz)) (0) (0) (va_A [(oa, .inr (4, ov_ k1 k2 ba ca qm0 fr)), (qm0, .inl (cI, 9, .inl mx))] sz) := by
  refine Met.ofW (cc := cX4_doCross) (maxL := 3) (ret := (some .boolean)) (by decide) rfl ?_
  intro p e s m args below meth c s₁ B hml hv
  obtain ⟨rfl, hsz, hP, hK, hD0⟩ := hv
  have hx := B.exec
  have hb := B.bytes
  have hr := B.returns
  have hts := atoms_spec (ws := wsX4_doCross) B.pre
  have hown : s.vm.findClass RX4 = some m.cls := findClass_of_methodNamed B.named
  have hlocks := B.notSynchronized
  subst hsz
  have hD := hD0.self (sz := s.heap.size)
  generalize hAe : va_A [(oa, .inr (4, ov_ k1 k2 ba ca qm0 fr)), (qm0, .inl (cI, 9, .inl mx))] s.heap.size = A at hD ⊢
  have hA : ∀ q : Nat, s.heap.size ≤ q → A q := fun q h => by rw [← hAe]; exact Or.inr h
  have hS : va_S A s.heap s.heap [] := va_S.rf
  have hP : va_P g vwCl [(oa, .inr (4, ov_ k1 k2 ba ca qm0 fr)), (qm0, .inl (cI, 9, .inl mx))] s.heap := hP
  have hl := lv_entry ([.ref oa]) (n := 3) (Nat.le_of_ble_eq_true rfl)
  rw [lg_entry_eq]
  generalize (lg_sl ([.ref oa]) ++ List.replicate (3 - (lg_sl ([.ref oa])).length) Slot.unset).toArray = ls at hl ⊢
  have hl : lv_has ls 3 [(0, .ref oa)] := hl
  have hH0 : s.heap = s.heap := rfl
  refine lv_aload_n hx hb dX4_doCross_0 rfl (lv_at hl 0 rfl) ?_
  refine lv_iconst (v := 0) hx hb dX4_doCross_1 (by decide) ?_
  have hPc := hP.sub (ws' := [(oa, .inr (4, ov_ k1 k2 ba ca qm0 fr)), (qm0, .inl (cI, 9, .inl mx))]) [0, 1] rfl
  have hDc := hD.sub (ws' := [(oa, .inr (4, ov_ k1 k2 ba ca qm0 fr)), (qm0, .inl (cI, 9, .inl mx))]) [0, 1] (by decide) rfl
  have hFc := va_free (wc := [(oa, .inr (4, ov_ k1 k2 ba ca qm0 fr)), (qm0, .inl (cI, 9, .inl mx))]) hD hS hA [0, 1] rfl
  refine va_calli (va_runV (As := [.int 0]) (rest := []) ⟨hx, hb, hml, hown, hts⟩ (kX4_dimensionInFirst l g cI cJ cZ s.heap.size oa k1 k2 ba ca qm0 fr mx 0 t3_0) (cwV 1 hts gX4_doCross_X4_dimensionInFirst rfl rfl rfl (by decide +kernel) ⟨Nat.le_of_ble_eq_true rfl, Nat.le_of_ble_eq_true rfl⟩) (pv_ hK hPc hDc (va_recv hK hPc (ci := 4) (q0 := 0) rfl rfl)) rfl rfl hl.1 rfl (lv_room (Nat.le_of_ble_eq_true rfl)) dX4_doCross_2 ⟨Nat.zero_le _, Nat.zero_le _⟩) hS (fun q _ h => hFc q h) hFc (fun r1 u t H1 locs ht hvm hw1 hB hz1 hk1 hS => ?_)
  obtain ⟨hP1, hK1, hD1⟩ := hB
  rw [ht] at hP1
  obtain ⟨hP, hD⟩ := va_join (wr := []) (w1 := [(oa, .inr (4, ov_ k1 k2 ba ca qm0 fr)), (qm0, .inl (cI, 9, .inl mx))]) hP hD [0, 1] [] rfl rfl (by decide) (by decide) hk1 hFc hP1 hD1
  clear hPc hDc hFc hP1 hD1 hK1 hk1 hz1 hvm ht
  generalize H1 = H at hP hS ⊢
  have hP : va_P g vwCl [(oa, .inr (4, ov_ k1 k2 ba ca qm0 fr)), (qm0, .inl (cI, 9, .inl mx))] H := hP
  have hD : va_D A [(oa, .inr (4, ov_ k1 k2 ba ca qm0 fr)), (qm0, .inl (cI, 9, .inl mx))] := hD
  refine lv_istore_n (lv' := [(1, .int r1), (0, .ref oa)]) hx hb dX4_doCross_5 rfl hl (by decide) rfl (fun ls hl => ?_)
  refine lv_aload_n hx hb dX4_doCross_6 rfl (lv_at hl 1 rfl) ?_
  refine lv_iconst (v := 0) hx hb dX4_doCross_7 (by decide) ?_
  have hPc := hP.sub (ws' := [(oa, .inr (4, ov_ k1 k2 ba ca qm0 fr)), (qm0, .inl (cI, 9, .inl mx))]) [0, 1] rfl
  have hDc := hD.sub (ws' := [(oa, .inr (4, ov_ k1 k2 ba ca qm0 fr)), (qm0, .inl (cI, 9, .inl mx))]) [0, 1] (by decide) rfl
  have hFc := va_free (wc := [(oa, .inr (4, ov_ k1 k2 ba ca qm0 fr)), (qm0, .inl (cI, 9, .inl mx))]) hD hS hA [0, 1] rfl
  refine va_calli (va_runV (As := [.int 0]) (rest := []) ⟨hx, hb, hml, hown, hts⟩ (kX4_dimensionInSecond l g cI cJ cZ H.size oa k1 k2 ba ca qm0 fr mx 0 t3_0) (cwV 1 hts gX4_doCross_X4_dimensionInSecond rfl rfl rfl (by decide +kernel) ⟨Nat.le_of_ble_eq_true rfl, Nat.le_of_ble_eq_true rfl⟩) (pv_ hK hPc hDc (va_recv hK hPc (ci := 4) (q0 := 0) rfl rfl)) rfl rfl hl.1 rfl (lv_room (Nat.le_of_ble_eq_true rfl)) dX4_doCross_8 ⟨Nat.zero_le _, Nat.zero_le _⟩) hS (fun q _ h => hFc q h) hFc (fun r2 u t H1 locs ht hvm hw2 hB hz1 hk1 hS => ?_)
  obtain ⟨hP1, hK1, hD1⟩ := hB
  rw [ht] at hP1
  obtain ⟨hP, hD⟩ := va_join (wr := []) (w1 := [(oa, .inr (4, ov_ k1 k2 ba ca qm0 fr)), (qm0, .inl (cI, 9, .inl mx))]) hP hD [0, 1] [] rfl rfl (by decide) (by decide) hk1 hFc hP1 hD1
  clear hPc hDc hFc hP1 hD1 hK1 hk1 hz1 hvm ht
  generalize H1 = H at hP hS ⊢
  have hP : va_P g vwCl [(oa, .inr (4, ov_ k1 k2 ba ca qm0 fr)), (qm0, .inl (cI, 9, .inl mx))] H := hP
  have hD : va_D A [(oa, .inr (4, ov_ k1 k2 ba ca qm0 fr)), (qm0, .inl (cI, 9, .inl mx))] := hD
  refine lv_istore_n (lv' := [(2, .int r2), (1, .int r1), (0, .ref oa)]) hx hb dX4_doCross_11 rfl hl (by decide) rfl (fun ls hl => ?_)
  refine lv_iload_n hx hb dX4_doCross_12 rfl (lv_at hl 1 rfl) ?_
  refine lv_iload_n hx hb dX4_doCross_13 rfl (lv_at hl 0 rfl) ?_
  refine lv_icmp_ge (tgt := 41) hx hb dX4_doCross_14 (by decide) (fun c1 => ?_) (fun c1 => ?_)
  · refine lv_iload_n hx hb dX4_doCross_41 rfl (lv_at hl 1 rfl) ?_
    refine lv_iload_n hx hb dX4_doCross_42 rfl (lv_at hl 0 rfl) ?_
    refine lv_icmp_le (tgt := 70) hx hb dX4_doCross_43 (by decide) (fun c2 => ?_) (fun c2 => ?_)
    · refine lv_iload_n hx hb dX4_doCross_70 rfl (lv_at hl 1 rfl) ?_
      refine lv_iconst (v := 1) hx hb dX4_doCross_71 (by decide) ?_
      refine lv_icmp_ne (tgt := 88) hx hb dX4_doCross_72 (by decide) (fun c3 => ?_) (fun c3 => ?_)
      · refine lv_iconst (v := 0) hx hb dX4_doCross_88 (by decide) ?_
        have hP9 := hP.sub (ws' := [(oa, .inr (4, ov_ k1 k2 ba ca qm0 fr)), (qm0, .inl (cI, 9, .inl mx))]) [0, 1] rfl
        have hD9 := hD.sub (ws' := [(oa, .inr (4, ov_ k1 k2 ba ca qm0 fr)), (qm0, .inl (cI, 9, .inl mx))]) [0, 1] (by decide) rfl
        exact W.zret (v := 0) (ty := .boolean) hx hb hr (by decide +kernel) (fun t ht hW => ⟨⟨0, (), rfl, by (try simp only [hw1, hw2] at c1 c2 c3); unfold dcr_; rw [if_pos c1, if_pos c2, if_neg (fun h => c3 h.1)], by rw [ht]; exact hP9, va_K.moved hW.alike hK, hD9⟩, hS.F ht⟩) hS.2.2 dX4_doCross_89
      · refine lv_aload_n hx hb dX4_doCross_75 rfl (lv_at hl 2 rfl) ?_
        refine lv_iconst (v := 0) hx hb dX4_doCross_76 (by decide) ?_
        refine lv_iconst (v := 0) hx hb dX4_doCross_77 (by decide) ?_
        have hPc := hP.sub (ws' := [(oa, .inr (4, ov_ k1 k2 ba ca qm0 fr)), (qm0, .inl (cI, 9, .inl mx))]) [0, 1] rfl
        have hDc := hD.sub (ws' := [(oa, .inr (4, ov_ k1 k2 ba ca qm0 fr)), (qm0, .inl (cI, 9, .inl mx))]) [0, 1] (by decide) rfl
        have hFc := va_free (wc := [(oa, .inr (4, ov_ k1 k2 ba ca qm0 fr)), (qm0, .inl (cI, 9, .inl mx))]) hD hS hA [0, 1] rfl
        refine va_calli (va_runV (As := [.int 0, .int 0]) (rest := []) ⟨hx, hb, hml, hown, hts⟩ (kX4_at l g cI cJ cZ H.size oa k1 k2 ba ca qm0 fr mx 0 0 t3_0 t3_0) (cwV 2 hts gX4_doCross_X4_at rfl rfl rfl (by decide +kernel) ⟨Nat.le_of_ble_eq_true rfl, Nat.le_of_ble_eq_true rfl⟩) (pv_ hK hPc hDc (va_recv hK hPc (ci := 4) (q0 := 0) rfl rfl)) rfl rfl hl.1 rfl (lv_room (Nat.le_of_ble_eq_true rfl)) dX4_doCross_78 ⟨Nat.zero_le _, Nat.zero_le _⟩) hS (fun q _ h => hFc q h) hFc (fun r3 u t H1 locs ht hvm hw3 hB hz1 hk1 hS => ?_)
        obtain ⟨hP1, hK1, hD1⟩ := hB
        rw [ht] at hP1
        obtain ⟨hP, hD⟩ := va_join (wr := []) (w1 := [(oa, .inr (4, ov_ k1 k2 ba ca qm0 fr)), (qm0, .inl (cI, 9, .inl mx))]) hP hD [0, 1] [] rfl rfl (by decide) (by decide) hk1 hFc hP1 hD1
        clear hPc hDc hFc hP1 hD1 hK1 hk1 hz1 hvm ht
        generalize H1 = H at hP hS ⊢
        have hP : va_P g vwCl [(oa, .inr (4, ov_ k1 k2 ba ca qm0 fr)), (qm0, .inl (cI, 9, .inl mx))] H := hP
        have hD : va_D A [(oa, .inr (4, ov_ k1 k2 ba ca qm0 fr)), (qm0, .inl (cI, 9, .inl mx))] := hD
        refine lv_if_ne (tgt := 88) hx hb dX4_doCross_81 (by decide) (fun c4 => ?_) (fun c4 => ?_)
        · refine lv_iconst (v := 0) hx hb dX4_doCross_88 (by decide) ?_
          have hP9 := hP.sub (ws' := [(oa, .inr (4, ov_ k1 k2 ba ca qm0 fr)), (qm0, .inl (cI, 9, .inl mx))]) [0, 1] rfl
          have hD9 := hD.sub (ws' := [(oa, .inr (4, ov_ k1 k2 ba ca qm0 fr)), (qm0, .inl (cI, 9, .inl mx))]) [0, 1] (by decide) rfl
          exact W.zret (v := 0) (ty := .boolean) hx hb hr (by decide +kernel) (fun t ht hW => ⟨⟨0, (), rfl, by (try simp only [hw1, hw2, hw3] at c1 c2 c3 c4); unfold dcr_; rw [if_pos c1, if_pos c2, if_neg (fun h => c4 h.2)], by rw [ht]; exact hP9, va_K.moved hW.alike hK, hD9⟩, hS.F ht⟩) hS.2.2 dX4_doCross_89
        · refine lv_iconst (v := 1) hx hb dX4_doCross_84 (by decide) ?_
          refine lv_goto (tgt := 89) hx hb dX4_doCross_85 (by decide) ?_
          have hP9 := hP.sub (ws' := [(oa, .inr (4, ov_ k1 k2 ba ca qm0 fr)), (qm0, .inl (cI, 9, .inl mx))]) [0, 1] rfl
          have hD9 := hD.sub (ws' := [(oa, .inr (4, ov_ k1 k2 ba ca qm0 fr)), (qm0, .inl (cI, 9, .inl mx))]) [0, 1] (by decide) rfl
          exact W.zret (v := 1) (ty := .boolean) hx hb hr (by decide +kernel) (fun t ht hW => ⟨⟨1, (), rfl, by (try simp only [hw1, hw2, hw3] at c1 c2 c3 c4); unfold dcr_; rw [if_pos c1, if_pos c2, if_pos ⟨c3, c4⟩], by rw [ht]; exact hP9, va_K.moved hW.alike hK, hD9⟩, hS.F ht⟩) hS.2.2 dX4_doCross_89
    · refine lv_aload_n hx hb dX4_doCross_46 rfl (lv_at hl 2 rfl) ?_
      refine lv_iconst (v := 0) hx hb dX4_doCross_47 (by decide) ?_
      refine lv_iconst (v := 0) hx hb dX4_doCross_48 (by decide) ?_
      have hPc := hP.sub (ws' := [(oa, .inr (4, ov_ k1 k2 ba ca qm0 fr)), (qm0, .inl (cI, 9, .inl mx))]) [0, 1] rfl
      have hDc := hD.sub (ws' := [(oa, .inr (4, ov_ k1 k2 ba ca qm0 fr)), (qm0, .inl (cI, 9, .inl mx))]) [0, 1] (by decide) rfl
      have hFc := va_free (wc := [(oa, .inr (4, ov_ k1 k2 ba ca qm0 fr)), (qm0, .inl (cI, 9, .inl mx))]) hD hS hA [0, 1] rfl
      refine va_calli (va_runV (As := [.int 0, .int 0]) (rest := []) ⟨hx, hb, hml, hown, hts⟩ (kX4_has l g cI cJ cZ H.size oa k1 k2 ba ca qm0 fr mx 0 0 t3_0 t3_0) (cwV 2 hts gX4_doCross_X4_has rfl rfl rfl (by decide +kernel) ⟨Nat.le_of_ble_eq_true rfl, Nat.le_of_ble_eq_true rfl⟩) (pv_ hK hPc hDc (va_recv hK hPc (ci := 4) (q0 := 0) rfl rfl)) rfl rfl hl.1 rfl (lv_room (Nat.le_of_ble_eq_true rfl)) dX4_doCross_49 ⟨Nat.zero_le _, Nat.zero_le _⟩) hS (fun q _ h => hFc q h) hFc (fun r3 u t H1 locs ht hvm hw3 hB hz1 hk1 hS => ?_)
      obtain ⟨hP1, hK1, hD1⟩ := hB
      rw [ht] at hP1
      obtain ⟨hP, hD⟩ := va_join (wr := []) (w1 := [(oa, .inr (4, ov_ k1 k2 ba ca qm0 fr)), (qm0, .inl (cI, 9, .inl mx))]) hP hD [0, 1] [] rfl rfl (by decide) (by decide) hk1 hFc hP1 hD1
      clear hPc hDc hFc hP1 hD1 hK1 hk1 hz1 hvm ht
      generalize H1 = H at hP hS ⊢
      have hP : va_P g vwCl [(oa, .inr (4, ov_ k1 k2 ba ca qm0 fr)), (qm0, .inl (cI, 9, .inl mx))] H := hP
      have hD : va_D A [(oa, .inr (4, ov_ k1 k2 ba ca qm0 fr)), (qm0, .inl (cI, 9, .inl mx))] := hD
      refine lv_if_eq (tgt := 68) hx hb dX4_doCross_52 (by decide) (fun c3 => ?_) (fun c3 => ?_)
      · refine lv_iconst (v := 0) hx hb dX4_doCross_68 (by decide) ?_
        have hP9 := hP.sub (ws' := [(oa, .inr (4, ov_ k1 k2 ba ca qm0 fr)), (qm0, .inl (cI, 9, .inl mx))]) [0, 1] rfl
        have hD9 := hD.sub (ws' := [(oa, .inr (4, ov_ k1 k2 ba ca qm0 fr)), (qm0, .inl (cI, 9, .inl mx))]) [0, 1] (by decide) rfl
        exact W.zret (v := 0) (ty := .boolean) hx hb hr (by decide +kernel) (fun t ht hW => ⟨⟨0, (), rfl, by (try simp only [hw1, hw2, hw3] at c1 c2 c3); unfold dcr_; rw [if_pos c1, if_neg c2, if_pos (Or.inl c3)], by rw [ht]; exact hP9, va_K.moved hW.alike hK, hD9⟩, hS.F ht⟩) hS.2.2 dX4_doCross_69
      · refine lv_aload_n hx hb dX4_doCross_55 rfl (lv_at hl 2 rfl) ?_
        refine lv_iconst (v := 2) hx hb dX4_doCross_56 (by decide) ?_
        refine lv_iconst (v := 0) hx hb dX4_doCross_57 (by decide) ?_
        have hPc := hP.sub (ws' := [(oa, .inr (4, ov_ k1 k2 ba ca qm0 fr)), (qm0, .inl (cI, 9, .inl mx))]) [0, 1] rfl
        have hDc := hD.sub (ws' := [(oa, .inr (4, ov_ k1 k2 ba ca qm0 fr)), (qm0, .inl (cI, 9, .inl mx))]) [0, 1] (by decide) rfl
        have hFc := va_free (wc := [(oa, .inr (4, ov_ k1 k2 ba ca qm0 fr)), (qm0, .inl (cI, 9, .inl mx))]) hD hS hA [0, 1] rfl
        refine va_calli (va_runV (As := [.int 2, .int 0]) (rest := []) ⟨hx, hb, hml, hown, hts⟩ (kX4_has l g cI cJ cZ H.size oa k1 k2 ba ca qm0 fr mx 2 0 t3_2 t3_0) (cwV 2 hts gX4_doCross_X4_has rfl rfl rfl (by decide +kernel) ⟨Nat.le_of_ble_eq_true rfl, Nat.le_of_ble_eq_true rfl⟩) (pv_ hK hPc hDc (va_recv hK hPc (ci := 4) (q0 := 0) rfl rfl)) rfl rfl hl.1 rfl (lv_room (Nat.le_of_ble_eq_true rfl)) dX4_doCross_58 ⟨Nat.zero_le _, Nat.zero_le _⟩) hS (fun q _ h => hFc q h) hFc (fun r4 u t H1 locs ht hvm hw4 hB hz1 hk1 hS => ?_)
        obtain ⟨hP1, hK1, hD1⟩ := hB
        rw [ht] at hP1
        obtain ⟨hP, hD⟩ := va_join (wr := []) (w1 := [(oa, .inr (4, ov_ k1 k2 ba ca qm0 fr)), (qm0, .inl (cI, 9, .inl mx))]) hP hD [0, 1] [] rfl rfl (by decide) (by decide) hk1 hFc hP1 hD1
        clear hPc hDc hFc hP1 hD1 hK1 hk1 hz1 hvm ht
        generalize H1 = H at hP hS ⊢
        have hP : va_P g vwCl [(oa, .inr (4, ov_ k1 k2 ba ca qm0 fr)), (qm0, .inl (cI, 9, .inl mx))] H := hP
        have hD : va_D A [(oa, .inr (4, ov_ k1 k2 ba ca qm0 fr)), (qm0, .inl (cI, 9, .inl mx))] := hD
        refine lv_if_eq (tgt := 68) hx hb dX4_doCross_61 (by decide) (fun c4 => ?_) (fun c4 => ?_)
        · refine lv_iconst (v := 0) hx hb dX4_doCross_68 (by decide) ?_
          have hP9 := hP.sub (ws' := [(oa, .inr (4, ov_ k1 k2 ba ca qm0 fr)), (qm0, .inl (cI, 9, .inl mx))]) [0, 1] rfl
          have hD9 := hD.sub (ws' := [(oa, .inr (4, ov_ k1 k2 ba ca qm0 fr)), (qm0, .inl (cI, 9, .inl mx))]) [0, 1] (by decide) rfl
          exact W.zret (v := 0) (ty := .boolean) hx hb hr (by decide +kernel) (fun t ht hW => ⟨⟨0, (), rfl, by (try simp only [hw1, hw2, hw3, hw4] at c1 c2 c3 c4); unfold dcr_; rw [if_pos c1, if_neg c2, if_pos (Or.inr c4)], by rw [ht]; exact hP9, va_K.moved hW.alike hK, hD9⟩, hS.F ht⟩) hS.2.2 dX4_doCross_69
        · refine lv_iconst (v := 1) hx hb dX4_doCross_64 (by decide) ?_
          refine lv_goto (tgt := 69) hx hb dX4_doCross_65 (by decide) ?_
          have hP9 := hP.sub (ws' := [(oa, .inr (4, ov_ k1 k2 ba ca qm0 fr)), (qm0, .inl (cI, 9, .inl mx))]) [0, 1] rfl
          have hD9 := hD.sub (ws' := [(oa, .inr (4, ov_ k1 k2 ba ca qm0 fr)), (qm0, .inl (cI, 9, .inl mx))]) [0, 1] (by decide) rfl
          exact W.zret (v := 1) (ty := .boolean) hx hb hr (by decide +kernel) (fun t ht hW => ⟨⟨1, (), rfl, by (try simp only [hw1, hw2, hw3, hw4] at c1 c2 c3 c4); unfold dcr_; rw [if_pos c1, if_neg c2, if_neg (fun h => h.elim c3 c4)], by rw [ht]; exact hP9, va_K.moved hW.alike hK, hD9⟩, hS.F ht⟩) hS.2.2 dX4_doCross_69
  · refine lv_aload_n hx hb dX4_doCross_17 rfl (lv_at hl 2 rfl) ?_
    refine lv_iconst (v := 0) hx hb dX4_doCross_18 (by decide) ?_
    refine lv_iconst (v := 0) hx hb dX4_doCross_19 (by decide) ?_
    have hPc := hP.sub (ws' := [(oa, .inr (4, ov_ k1 k2 ba ca qm0 fr)), (qm0, .inl (cI, 9, .inl mx))]) [0, 1] rfl
    have hDc := hD.sub (ws' := [(oa, .inr (4, ov_ k1 k2 ba ca qm0 fr)), (qm0, .inl (cI, 9, .inl mx))]) [0, 1] (by decide) rfl
    have hFc := va_free (wc := [(oa, .inr (4, ov_ k1 k2 ba ca qm0 fr)), (qm0, .inl (cI, 9, .inl mx))]) hD hS hA [0, 1] rfl
    refine va_calli (va_runV (As := [.int 0, .int 0]) (rest := []) ⟨hx, hb, hml, hown, hts⟩ (kX4_has l g cI cJ cZ H.size oa k1 k2 ba ca qm0 fr mx 0 0 t3_0 t3_0) (cwV 2 hts gX4_doCross_X4_has rfl rfl rfl (by decide +kernel) ⟨Nat.le_of_ble_eq_true rfl, Nat.le_of_ble_eq_true rfl⟩) (pv_ hK hPc hDc (va_recv hK hPc (ci := 4) (q0 := 0) rfl rfl)) rfl rfl hl.1 rfl (lv_room (Nat.le_of_ble_eq_true rfl)) dX4_doCross_20 ⟨Nat.zero_le _, Nat.zero_le _⟩) hS (fun q _ h => hFc q h) hFc (fun r3 u t H1 locs ht hvm hw3 hB hz1 hk1 hS => ?_)
    obtain ⟨hP1, hK1, hD1⟩ := hB
    rw [ht] at hP1
    obtain ⟨hP, hD⟩ := va_join (wr := []) (w1 := [(oa, .inr (4, ov_ k1 k2 ba ca qm0 fr)), (qm0, .inl (cI, 9, .inl mx))]) hP hD [0, 1] [] rfl rfl (by decide) (by decide) hk1 hFc hP1 hD1
    clear hPc hDc hFc hP1 hD1 hK1 hk1 hz1 hvm ht
    generalize H1 = H at hP hS ⊢
    have hP : va_P g vwCl [(oa, .inr (4, ov_ k1 k2 ba ca qm0 fr)), (qm0, .inl (cI, 9, .inl mx))] H := hP
    have hD : va_D A [(oa, .inr (4, ov_ k1 k2 ba ca qm0 fr)), (qm0, .inl (cI, 9, .inl mx))] := hD
    refine lv_if_eq (tgt := 39) hx hb dX4_doCross_23 (by decide) (fun c2 => ?_) (fun c2 => ?_)
    · refine lv_iconst (v := 0) hx hb dX4_doCross_39 (by decide) ?_
      have hP9 := hP.sub (ws' := [(oa, .inr (4, ov_ k1 k2 ba ca qm0 fr)), (qm0, .inl (cI, 9, .inl mx))]) [0, 1] rfl
      have hD9 := hD.sub (ws' := [(oa, .inr (4, ov_ k1 k2 ba ca qm0 fr)), (qm0, .inl (cI, 9, .inl mx))]) [0, 1] (by decide) rfl
      exact W.zret (v := 0) (ty := .boolean) hx hb hr (by decide +kernel) (fun t ht hW => ⟨⟨0, (), rfl, by (try simp only [hw1, hw2, hw3] at c1 c2); unfold dcr_; rw [if_neg c1, if_pos (Or.inl c2)], by rw [ht]; exact hP9, va_K.moved hW.alike hK, hD9⟩, hS.F ht⟩) hS.2.2 dX4_doCross_40
    · refine lv_aload_n hx hb dX4_doCross_26 rfl (lv_at hl 2 rfl) ?_
      refine lv_iconst (v := 0) hx hb dX4_doCross_27 (by decide) ?_
      refine lv_iconst (v := 2) hx hb dX4_doCross_28 (by decide) ?_
      have hPc := hP.sub (ws' := [(oa, .inr (4, ov_ k1 k2 ba ca qm0 fr)), (qm0, .inl (cI, 9, .inl mx))]) [0, 1] rfl
      have hDc := hD.sub (ws' := [(oa, .inr (4, ov_ k1 k2 ba ca qm0 fr)), (qm0, .inl (cI, 9, .inl mx))]) [0, 1] (by decide) rfl
      have hFc := va_free (wc := [(oa, .inr (4, ov_ k1 k2 ba ca qm0 fr)), (qm0, .inl (cI, 9, .inl mx))]) hD hS hA [0, 1] rfl
      refine va_calli (va_runV (As := [.int 0, .int 2]) (rest := []) ⟨hx, hb, hml, hown, hts⟩ (kX4_has l g cI cJ cZ H.size oa k1 k2 ba ca qm0 fr mx 0 2 t3_0 t3_2) (cwV 2 hts gX4_doCross_X4_has rfl rfl rfl (by decide +kernel) ⟨Nat.le_of_ble_eq_true rfl, Nat.le_of_ble_eq_true rfl⟩) (pv_ hK hPc hDc (va_recv hK hPc (ci := 4) (q0 := 0) rfl rfl)) rfl rfl hl.1 rfl (lv_room (Nat.le_of_ble_eq_true rfl)) dX4_doCross_29 ⟨Nat.zero_le _, Nat.zero_le _⟩) hS (fun q _ h => hFc q h) hFc (fun r4 u t H1 locs ht hvm hw4 hB hz1 hk1 hS => ?_)
      obtain ⟨hP1, hK1, hD1⟩ := hB
      rw [ht] at hP1
      obtain ⟨hP, hD⟩ := va_join (wr := []) (w1 := [(oa, .inr (4, ov_ k1 k2 ba ca qm0 fr)), (qm0, .inl (cI, 9, .inl mx))]) hP hD [0, 1] [] rfl rfl (by decide) (by decide) hk1 hFc hP1 hD1
      clear hPc hDc hFc hP1 hD1 hK1 hk1 hz1 hvm ht
      generalize H1 = H at hP hS ⊢
      have hP : va_P g vwCl [(oa, .inr (4, ov_ k1 k2 ba ca qm0 fr)), (qm0, .inl (cI, 9, .inl mx))] H := hP
      have hD : va_D A [(oa, .inr (4, ov_ k1 k2 ba ca qm0 fr)), (qm0, .inl (cI, 9, .inl mx))] := hD
      refine lv_if_eq (tgt := 39) hx hb dX4_doCross_32 (by decide) (fun c3 => ?_) (fun c3 => ?_)
      · refine lv_iconst (v := 0) hx hb dX4_doCross_39 (by decide) ?_
        have hP9 := hP.sub (ws' := [(oa, .inr (4, ov_ k1 k2 ba ca qm0 fr)), (qm0, .inl (cI, 9, .inl mx))]) [0, 1] rfl
        have hD9 := hD.sub (ws' := [(oa, .inr (4, ov_ k1 k2 ba ca qm0 fr)), (qm0, .inl (cI, 9, .inl mx))]) [0, 1] (by decide) rfl
        exact W.zret (v := 0) (ty := .boolean) hx hb hr (by decide +kernel) (fun t ht hW => ⟨⟨0, (), rfl, by (try simp only [hw1, hw2, hw3, hw4] at c1 c2 c3); unfold dcr_; rw [if_neg c1, if_pos (Or.inr c3)], by rw [ht]; exact hP9, va_K.moved hW.alike hK, hD9⟩, hS.F ht⟩) hS.2.2 dX4_doCross_40
      · refine lv_iconst (v := 1) hx hb dX4_doCross_35 (by decide) ?_
        refine lv_goto (tgt := 40) hx hb dX4_doCross_36 (by decide) ?_
        have hP9 := hP.sub (ws' := [(oa, .inr (4, ov_ k1 k2 ba ca qm0 fr)), (qm0, .inl (cI, 9, .inl mx))]) [0, 1] rfl
        have hD9 := hD.sub (ws' := [(oa, .inr (4, ov_ k1 k2 ba ca qm0 fr)), (qm0, .inl (cI, 9, .inl mx))]) [0, 1] (by decide) rfl
        exact W.zret (v := 1) (ty := .boolean) hx hb hr (by decide +kernel) (fun t ht hW => ⟨⟨1, (), rfl, by (try simp only [hw1, hw2, hw3, hw4] at c1 c2 c3); unfold dcr_; rw [if_neg c1, if_neg (fun h => h.elim c2 c3)], by rw [ht]; exact hP9, va_K.moved hW.alike hK, hD9⟩, hS.F ht⟩) hS.2.2 dX4_doCross_40

set_option maxHeartbeats 1000000 in
set_option maxRecDepth 100000 in
theorem kX4_doOverlap (l : Launch) (g : va_G) (cI cJ cZ : ClassId) (sz : Nat) (oa : Nat) (k1 : Nat) (k2 : Nat) (ba : Nat) (ca : Nat) (qm0 : Nat) (fr : Int32) (mx : Nat → Int32)  : Met l yX4_doOverlap wsX4_doOverlap ({ frames := 2, cells := 0, slots := 0, locals := 44 }) (pc_ g cI cJ cZ [.ref oa] [(oa, .inr (4, ov_ k1 k2 ba ca qm0 fr)), (qm0, .inl (cI, 9, .inl mx))] sz) (va_Qi (fun (r : Int32) (_ : Unit) => r = dov_ mx) (fun (_ : Unit) t => wd_ g cI cJ cZ (va_A [(oa, .inr (4, ov_ k1 k2 ba ca qm0 fr)), (qm0, .inl (cI, 9, .inl mx))] sz) [(oa, .inr (4, ov_ k1 k2 ba ca qm0 fr)), (qm0, .inl (cI, 9, .inl mx))] t) (va_A [(oa, .inr (4, ov_ k1 k2 ba ca qm0 fr)), (qm0, .inl (cI, 9, .inl mx))] sz)) (0) (0) (va_A [(oa, .inr (4, ov_ k1 k2 ba ca qm0 fr)), (qm0, .inl (cI, 9, .inl mx))] sz) := by
  refine Met.ofW (cc := cX4_doOverlap) (maxL := 2) (ret := (some .boolean)) (by decide) rfl ?_
  intro p e s m args below meth c s₁ B hml hv
  obtain ⟨rfl, hsz, hP, hK, hD0⟩ := hv
  have hx := B.exec
  have hb := B.bytes
  have hr := B.returns
  have hts := atoms_spec (ws := wsX4_doOverlap) B.pre
  have hown : s.vm.findClass RX4 = some m.cls := findClass_of_methodNamed B.named
  have hlocks := B.notSynchronized
  subst hsz
  have hD := hD0.self (sz := s.heap.size)
  generalize hAe : va_A [(oa, .inr (4, ov_ k1 k2 ba ca qm0 fr)), (qm0, .inl (cI, 9, .inl mx))] s.heap.size = A at hD ⊢
  have hA : ∀ q : Nat, s.heap.size ≤ q → A q := fun q h => by rw [← hAe]; exact Or.inr h
  have hS : va_S A s.heap s.heap [] := va_S.rf
  have hP : va_P g vwCl [(oa, .inr (4, ov_ k1 k2 ba ca qm0 fr)), (qm0, .inl (cI, 9, .inl mx))] s.heap := hP
  have hl := lv_entry ([.ref oa]) (n := 2) (Nat.le_of_ble_eq_true rfl)
  rw [lg_entry_eq]
  generalize (lg_sl ([.ref oa]) ++ List.replicate (2 - (lg_sl ([.ref oa])).length) Slot.unset).toArray = ls at hl ⊢
  have hl : lv_has ls 2 [(0, .ref oa)] := hl
  have hH0 : s.heap = s.heap := rfl
  refine lv_aload_n hx hb dX4_doOverlap_0 rfl (lv_at hl 0 rfl) ?_
  refine lv_iconst (v := 0) hx hb dX4_doOverlap_1 (by decide) ?_
  have hPc := hP.sub (ws' := [(oa, .inr (4, ov_ k1 k2 ba ca qm0 fr)), (qm0, .inl (cI, 9, .inl mx))]) [0, 1] rfl
  have hDc := hD.sub (ws' := [(oa, .inr (4, ov_ k1 k2 ba ca qm0 fr)), (qm0, .inl (cI, 9, .inl mx))]) [0, 1] (by decide) rfl
  have hFc := va_free (wc := [(oa, .inr (4, ov_ k1 k2 ba ca qm0 fr)), (qm0, .inl (cI, 9, .inl mx))]) hD hS hA [0, 1] rfl
  refine va_calli (va_runV (As := [.int 0]) (rest := []) ⟨hx, hb, hml, hown, hts⟩ (kX4_dimensionInFirst l g cI cJ cZ s.heap.size oa k1 k2 ba ca qm0 fr mx 0 t3_0) (cwV 1 hts gX4_doOverlap_X4_dimensionInFirst rfl rfl rfl (by decide +kernel) ⟨Nat.le_of_ble_eq_true rfl, Nat.le_of_ble_eq_true rfl⟩) (pv_ hK hPc hDc (va_recv hK hPc (ci := 4) (q0 := 0) rfl rfl)) rfl rfl hl.1 rfl (lv_room (Nat.le_of_ble_eq_true rfl)) dX4_doOverlap_2 ⟨Nat.zero_le _, Nat.zero_le _⟩) hS (fun q _ h => hFc q h) hFc (fun r1 u t H1 locs ht hvm hw1 hB hz1 hk1 hS => ?_)
  obtain ⟨hP1, hK1, hD1⟩ := hB
  rw [ht] at hP1
  obtain ⟨hP, hD⟩ := va_join (wr := []) (w1 := [(oa, .inr (4, ov_ k1 k2 ba ca qm0 fr)), (qm0, .inl (cI, 9, .inl mx))]) hP hD [0, 1] [] rfl rfl (by decide) (by decide) hk1 hFc hP1 hD1
  clear hPc hDc hFc hP1 hD1 hK1 hk1 hz1 hvm ht
  generalize H1 = H at hP hS ⊢
  have hP : va_P g vwCl [(oa, .inr (4, ov_ k1 k2 ba ca qm0 fr)), (qm0, .inl (cI, 9, .inl mx))] H := hP
  have hD : va_D A [(oa, .inr (4, ov_ k1 k2 ba ca qm0 fr)), (qm0, .inl (cI, 9, .inl mx))] := hD
  refine lv_istore_n (lv' := [(1, .int r1), (0, .ref oa)]) hx hb dX4_doOverlap_5 rfl hl (by decide) rfl (fun ls hl => ?_)
  refine lv_iload_n hx hb dX4_doOverlap_6 rfl (lv_at hl 0 rfl) ?_
  refine lv_iconst (v := (-1)) hx hb dX4_doOverlap_7 (by decide) ?_
  refine lv_icmp_eq (tgt := 52) hx hb dX4_doOverlap_8 (by decide) (fun c1 => ?_) (fun c1 => ?_)
  · refine lv_iconst (v := 0) hx hb dX4_doOverlap_52 (by decide) ?_
    have hP9 := hP.sub (ws' := [(oa, .inr (4, ov_ k1 k2 ba ca qm0 fr)), (qm0, .inl (cI, 9, .inl mx))]) [0, 1] rfl
    have hD9 := hD.sub (ws' := [(oa, .inr (4, ov_ k1 k2 ba ca qm0 fr)), (qm0, .inl (cI, 9, .inl mx))]) [0, 1] (by decide) rfl
    exact W.zret (v := 0) (ty := .boolean) hx hb hr (by decide +kernel) (fun t ht hW => ⟨⟨0, (), rfl, by (try simp only [hw1] at c1); unfold dov_; rw [if_neg (fun h => h.1 c1)], by rw [ht]; exact hP9, va_K.moved hW.alike hK, hD9⟩, hS.F ht⟩) hS.2.2 dX4_doOverlap_53
  · refine lv_iload_n hx hb dX4_doOverlap_11 rfl (lv_at hl 0 rfl) ?_
    refine lv_aload_n hx hb dX4_doOverlap_12 rfl (lv_at hl 1 rfl) ?_
    refine lv_iconst (v := 0) hx hb dX4_doOverlap_13 (by decide) ?_
    have hPc := hP.sub (ws' := [(oa, .inr (4, ov_ k1 k2 ba ca qm0 fr)), (qm0, .inl (cI, 9, .inl mx))]) [0, 1] rfl
    have hDc := hD.sub (ws' := [(oa, .inr (4, ov_ k1 k2 ba ca qm0 fr)), (qm0, .inl (cI, 9, .inl mx))]) [0, 1] (by decide) rfl
    have hFc := va_free (wc := [(oa, .inr (4, ov_ k1 k2 ba ca qm0 fr)), (qm0, .inl (cI, 9, .inl mx))]) hD hS hA [0, 1] rfl
    refine va_calli (va_runV (As := [.int 0]) (rest := [.int r1]) ⟨hx, hb, hml, hown, hts⟩ (kX4_dimensionInSecond l g cI cJ cZ H.size oa k1 k2 ba ca qm0 fr mx 0 t3_0) (cwV 1 hts gX4_doOverlap_X4_dimensionInSecond rfl rfl rfl (by decide +kernel) ⟨Nat.le_of_ble_eq_true rfl, Nat.le_of_ble_eq_true rfl⟩) (pv_ hK hPc hDc (va_recv hK hPc (ci := 4) (q0 := 0) rfl rfl)) rfl rfl hl.1 rfl (lv_room (Nat.le_of_ble_eq_true rfl)) dX4_doOverlap_14 ⟨Nat.zero_le _, Nat.zero_le _⟩) hS (fun q _ h => hFc q h) hFc (fun r2 u t H1 locs ht hvm hw2 hB hz1 hk1 hS => ?_)
    obtain ⟨hP1, hK1, hD1⟩ := hB
    rw [ht] at hP1
    obtain ⟨hP, hD⟩ := va_join (wr := []) (w1 := [(oa, .inr (4, ov_ k1 k2 ba ca qm0 fr)), (qm0, .inl (cI, 9, .inl mx))]) hP hD [0, 1] [] rfl rfl (by decide) (by decide) hk1 hFc hP1 hD1
    clear hPc hDc hFc hP1 hD1 hK1 hk1 hz1 hvm ht
    generalize H1 = H at hP hS ⊢
    have hP : va_P g vwCl [(oa, .inr (4, ov_ k1 k2 ba ca qm0 fr)), (qm0, .inl (cI, 9, .inl mx))] H := hP
    have hD : va_D A [(oa, .inr (4, ov_ k1 k2 ba ca qm0 fr)), (qm0, .inl (cI, 9, .inl mx))] := hD
    refine lv_icmp_ne (tgt := 52) hx hb dX4_doOverlap_17 (by decide) (fun c2 => ?_) (fun c2 => ?_)
    · refine lv_iconst (v := 0) hx hb dX4_doOverlap_52 (by decide) ?_
      have hP9 := hP.sub (ws' := [(oa, .inr (4, ov_ k1 k2 ba ca qm0 fr)), (qm0, .inl (cI, 9, .inl mx))]) [0, 1] rfl
      have hD9 := hD.sub (ws' := [(oa, .inr (4, ov_ k1 k2 ba ca qm0 fr)), (qm0, .inl (cI, 9, .inl mx))]) [0, 1] (by decide) rfl
      exact W.zret (v := 0) (ty := .boolean) hx hb hr (by decide +kernel) (fun t ht hW => ⟨⟨0, (), rfl, by (try simp only [hw1, hw2] at c1 c2); unfold dov_; rw [if_neg (fun h => c2 h.2.1)], by rw [ht]; exact hP9, va_K.moved hW.alike hK, hD9⟩, hS.F ht⟩) hS.2.2 dX4_doOverlap_53
    · refine lv_aload_n hx hb dX4_doOverlap_20 rfl (lv_at hl 1 rfl) ?_
      refine lv_iconst (v := 0) hx hb dX4_doOverlap_21 (by decide) ?_
      refine lv_iconst (v := 0) hx hb dX4_doOverlap_22 (by decide) ?_
      have hPc := hP.sub (ws' := [(oa, .inr (4, ov_ k1 k2 ba ca qm0 fr)), (qm0, .inl (cI, 9, .inl mx))]) [0, 1] rfl
      have hDc := hD.sub (ws' := [(oa, .inr (4, ov_ k1 k2 ba ca qm0 fr)), (qm0, .inl (cI, 9, .inl mx))]) [0, 1] (by decide) rfl
      have hFc := va_free (wc := [(oa, .inr (4, ov_ k1 k2 ba ca qm0 fr)), (qm0, .inl (cI, 9, .inl mx))]) hD hS hA [0, 1] rfl
      refine va_calli (va_runV (As := [.int 0, .int 0]) (rest := []) ⟨hx, hb, hml, hown, hts⟩ (kX4_at l g cI cJ cZ H.size oa k1 k2 ba ca qm0 fr mx 0 0 t3_0 t3_0) (cwV 2 hts gX4_doOverlap_X4_at rfl rfl rfl (by decide +kernel) ⟨Nat.le_of_ble_eq_true rfl, Nat.le_of_ble_eq_true rfl⟩) (pv_ hK hPc hDc (va_recv hK hPc (ci := 4) (q0 := 0) rfl rfl)) rfl rfl hl.1 rfl (lv_room (Nat.le_of_ble_eq_true rfl)) dX4_doOverlap_23 ⟨Nat.zero_le _, Nat.zero_le _⟩) hS (fun q _ h => hFc q h) hFc (fun r3 u t H1 locs ht hvm hw3 hB hz1 hk1 hS => ?_)
      obtain ⟨hP1, hK1, hD1⟩ := hB
      rw [ht] at hP1
      obtain ⟨hP, hD⟩ := va_join (wr := []) (w1 := [(oa, .inr (4, ov_ k1 k2 ba ca qm0 fr)), (qm0, .inl (cI, 9, .inl mx))]) hP hD [0, 1] [] rfl rfl (by decide) (by decide) hk1 hFc hP1 hD1
      clear hPc hDc hFc hP1 hD1 hK1 hk1 hz1 hvm ht
      generalize H1 = H at hP hS ⊢
      have hP : va_P g vwCl [(oa, .inr (4, ov_ k1 k2 ba ca qm0 fr)), (qm0, .inl (cI, 9, .inl mx))] H := hP
      have hD : va_D A [(oa, .inr (4, ov_ k1 k2 ba ca qm0 fr)), (qm0, .inl (cI, 9, .inl mx))] := hD
      refine lv_iload_n hx hb dX4_doOverlap_26 rfl (lv_at hl 0 rfl) ?_
      refine lv_icmp_ne (tgt := 52) hx hb dX4_doOverlap_27 (by decide) (fun c3 => ?_) (fun c3 => ?_)
      · refine lv_iconst (v := 0) hx hb dX4_doOverlap_52 (by decide) ?_
        have hP9 := hP.sub (ws' := [(oa, .inr (4, ov_ k1 k2 ba ca qm0 fr)), (qm0, .inl (cI, 9, .inl mx))]) [0, 1] rfl
        have hD9 := hD.sub (ws' := [(oa, .inr (4, ov_ k1 k2 ba ca qm0 fr)), (qm0, .inl (cI, 9, .inl mx))]) [0, 1] (by decide) rfl
        exact W.zret (v := 0) (ty := .boolean) hx hb hr (by decide +kernel) (fun t ht hW => ⟨⟨0, (), rfl, by (try simp only [hw1, hw2, hw3] at c1 c2 c3); unfold dov_; rw [if_neg (fun h => c3 h.2.2.1)], by rw [ht]; exact hP9, va_K.moved hW.alike hK, hD9⟩, hS.F ht⟩) hS.2.2 dX4_doOverlap_53
      · refine lv_aload_n hx hb dX4_doOverlap_30 rfl (lv_at hl 1 rfl) ?_
        refine lv_iconst (v := 0) hx hb dX4_doOverlap_31 (by decide) ?_
        refine lv_iconst (v := 2) hx hb dX4_doOverlap_32 (by decide) ?_
        have hPc := hP.sub (ws' := [(oa, .inr (4, ov_ k1 k2 ba ca qm0 fr)), (qm0, .inl (cI, 9, .inl mx))]) [0, 1] rfl
        have hDc := hD.sub (ws' := [(oa, .inr (4, ov_ k1 k2 ba ca qm0 fr)), (qm0, .inl (cI, 9, .inl mx))]) [0, 1] (by decide) rfl
        have hFc := va_free (wc := [(oa, .inr (4, ov_ k1 k2 ba ca qm0 fr)), (qm0, .inl (cI, 9, .inl mx))]) hD hS hA [0, 1] rfl
        refine va_calli (va_runV (As := [.int 0, .int 2]) (rest := []) ⟨hx, hb, hml, hown, hts⟩ (kX4_has l g cI cJ cZ H.size oa k1 k2 ba ca qm0 fr mx 0 2 t3_0 t3_2) (cwV 2 hts gX4_doOverlap_X4_has rfl rfl rfl (by decide +kernel) ⟨Nat.le_of_ble_eq_true rfl, Nat.le_of_ble_eq_true rfl⟩) (pv_ hK hPc hDc (va_recv hK hPc (ci := 4) (q0 := 0) rfl rfl)) rfl rfl hl.1 rfl (lv_room (Nat.le_of_ble_eq_true rfl)) dX4_doOverlap_33 ⟨Nat.zero_le _, Nat.zero_le _⟩) hS (fun q _ h => hFc q h) hFc (fun r4 u t H1 locs ht hvm hw4 hB hz1 hk1 hS => ?_)
        obtain ⟨hP1, hK1, hD1⟩ := hB
        rw [ht] at hP1
        obtain ⟨hP, hD⟩ := va_join (wr := []) (w1 := [(oa, .inr (4, ov_ k1 k2 ba ca qm0 fr)), (qm0, .inl (cI, 9, .inl mx))]) hP hD [0, 1] [] rfl rfl (by decide) (by decide) hk1 hFc hP1 hD1
        clear hPc hDc hFc hP1 hD1 hK1 hk1 hz1 hvm ht
        generalize H1 = H at hP hS ⊢
        have hP : va_P g vwCl [(oa, .inr (4, ov_ k1 k2 ba ca qm0 fr)), (qm0, .inl (cI, 9, .inl mx))] H := hP
        have hD : va_D A [(oa, .inr (4, ov_ k1 k2 ba ca qm0 fr)), (qm0, .inl (cI, 9, .inl mx))] := hD
        refine lv_if_eq (tgt := 52) hx hb dX4_doOverlap_36 (by decide) (fun c4 => ?_) (fun c4 => ?_)
        · refine lv_iconst (v := 0) hx hb dX4_doOverlap_52 (by decide) ?_
          have hP9 := hP.sub (ws' := [(oa, .inr (4, ov_ k1 k2 ba ca qm0 fr)), (qm0, .inl (cI, 9, .inl mx))]) [0, 1] rfl
          have hD9 := hD.sub (ws' := [(oa, .inr (4, ov_ k1 k2 ba ca qm0 fr)), (qm0, .inl (cI, 9, .inl mx))]) [0, 1] (by decide) rfl
          exact W.zret (v := 0) (ty := .boolean) hx hb hr (by decide +kernel) (fun t ht hW => ⟨⟨0, (), rfl, by (try simp only [hw1, hw2, hw3, hw4] at c1 c2 c3 c4); unfold dov_; rw [if_neg (fun h => h.2.2.2.1 c4)], by rw [ht]; exact hP9, va_K.moved hW.alike hK, hD9⟩, hS.F ht⟩) hS.2.2 dX4_doOverlap_53
        · refine lv_aload_n hx hb dX4_doOverlap_39 rfl (lv_at hl 1 rfl) ?_
          refine lv_iconst (v := 2) hx hb dX4_doOverlap_40 (by decide) ?_
          refine lv_iconst (v := 0) hx hb dX4_doOverlap_41 (by decide) ?_
          have hPc := hP.sub (ws' := [(oa, .inr (4, ov_ k1 k2 ba ca qm0 fr)), (qm0, .inl (cI, 9, .inl mx))]) [0, 1] rfl
          have hDc := hD.sub (ws' := [(oa, .inr (4, ov_ k1 k2 ba ca qm0 fr)), (qm0, .inl (cI, 9, .inl mx))]) [0, 1] (by decide) rfl
          have hFc := va_free (wc := [(oa, .inr (4, ov_ k1 k2 ba ca qm0 fr)), (qm0, .inl (cI, 9, .inl mx))]) hD hS hA [0, 1] rfl
          refine va_calli (va_runV (As := [.int 2, .int 0]) (rest := []) ⟨hx, hb, hml, hown, hts⟩ (kX4_has l g cI cJ cZ H.size oa k1 k2 ba ca qm0 fr mx 2 0 t3_2 t3_0) (cwV 2 hts gX4_doOverlap_X4_has rfl rfl rfl (by decide +kernel) ⟨Nat.le_of_ble_eq_true rfl, Nat.le_of_ble_eq_true rfl⟩) (pv_ hK hPc hDc (va_recv hK hPc (ci := 4) (q0 := 0) rfl rfl)) rfl rfl hl.1 rfl (lv_room (Nat.le_of_ble_eq_true rfl)) dX4_doOverlap_42 ⟨Nat.zero_le _, Nat.zero_le _⟩) hS (fun q _ h => hFc q h) hFc (fun r5 u t H1 locs ht hvm hw5 hB hz1 hk1 hS => ?_)
          obtain ⟨hP1, hK1, hD1⟩ := hB
          rw [ht] at hP1
          obtain ⟨hP, hD⟩ := va_join (wr := []) (w1 := [(oa, .inr (4, ov_ k1 k2 ba ca qm0 fr)), (qm0, .inl (cI, 9, .inl mx))]) hP hD [0, 1] [] rfl rfl (by decide) (by decide) hk1 hFc hP1 hD1
          clear hPc hDc hFc hP1 hD1 hK1 hk1 hz1 hvm ht
          generalize H1 = H at hP hS ⊢
          have hP : va_P g vwCl [(oa, .inr (4, ov_ k1 k2 ba ca qm0 fr)), (qm0, .inl (cI, 9, .inl mx))] H := hP
          have hD : va_D A [(oa, .inr (4, ov_ k1 k2 ba ca qm0 fr)), (qm0, .inl (cI, 9, .inl mx))] := hD
          refine lv_if_eq (tgt := 52) hx hb dX4_doOverlap_45 (by decide) (fun c5 => ?_) (fun c5 => ?_)
          · refine lv_iconst (v := 0) hx hb dX4_doOverlap_52 (by decide) ?_
            have hP9 := hP.sub (ws' := [(oa, .inr (4, ov_ k1 k2 ba ca qm0 fr)), (qm0, .inl (cI, 9, .inl mx))]) [0, 1] rfl
            have hD9 := hD.sub (ws' := [(oa, .inr (4, ov_ k1 k2 ba ca qm0 fr)), (qm0, .inl (cI, 9, .inl mx))]) [0, 1] (by decide) rfl
            exact W.zret (v := 0) (ty := .boolean) hx hb hr (by decide +kernel) (fun t ht hW => ⟨⟨0, (), rfl, by (try simp only [hw1, hw2, hw3, hw4, hw5] at c1 c2 c3 c4 c5); unfold dov_; rw [if_neg (fun h => h.2.2.2.2 c5)], by rw [ht]; exact hP9, va_K.moved hW.alike hK, hD9⟩, hS.F ht⟩) hS.2.2 dX4_doOverlap_53
          · refine lv_iconst (v := 1) hx hb dX4_doOverlap_48 (by decide) ?_
            refine lv_goto (tgt := 53) hx hb dX4_doOverlap_49 (by decide) ?_
            have hP9 := hP.sub (ws' := [(oa, .inr (4, ov_ k1 k2 ba ca qm0 fr)), (qm0, .inl (cI, 9, .inl mx))]) [0, 1] rfl
            have hD9 := hD.sub (ws' := [(oa, .inr (4, ov_ k1 k2 ba ca qm0 fr)), (qm0, .inl (cI, 9, .inl mx))]) [0, 1] (by decide) rfl
            exact W.zret (v := 1) (ty := .boolean) hx hb hr (by decide +kernel) (fun t ht hW => ⟨⟨1, (), rfl, by (try simp only [hw1, hw2, hw3, hw4, hw5] at c1 c2 c3 c4 c5); unfold dov_; rw [if_pos ⟨c1, c2, c3, c4, c5⟩], by rw [ht]; exact hP9, va_K.moved hW.alike hK, hD9⟩, hS.F ht⟩) hS.2.2 dX4_doOverlap_53
end
