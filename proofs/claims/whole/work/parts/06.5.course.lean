section
theorem ikX3_placeOnMark_X3 : ∀ w ∈ wsX30, w ∈ wsX3_placeOnMark := by decide +kernel
set_option maxHeartbeats 1000000 in
set_option maxRecDepth 100000 in
theorem kX3_placeOnMark (l : Launch) (g : va_G) (cI cJ cZ : ClassId) (sz : Nat) (fa : Nat) (kd : Int32) (pn : Int32) (pt : Int32) (qx : Nat) (qy : Nat) (qs : Nat) (pr : Int32) (sc : Int32) (qt : Nat) (qh : Nat) (mn : Int32) (qm : Nat) (qd : Nat)  : Met l yX3_placeOnMark wsX3_placeOnMark ({ frames := 0, cells := 0, slots := 0, locals := 0 }) (pc_ g cI cJ cZ [.ref fa] [(fa, .inr (3, fg_ kd pn pt qx qy qs pr sc qt qh mn qm qd))] sz) (va_Qi (fun (r : Int32) (_ : Unit) => r = pom_ kd) (fun (_ : Unit) t => wd_ g cI cJ cZ (va_A [(fa, .inr (3, fg_ kd pn pt qx qy qs pr sc qt qh mn qm qd))] sz) [(fa, .inr (3, fg_ kd pn pt qx qy qs pr sc qt qh mn qm qd))] t) (va_A [(fa, .inr (3, fg_ kd pn pt qx qy qs pr sc qt qh mn qm qd))] sz)) (0) (0) (va_A [(fa, .inr (3, fg_ kd pn pt qx qy qs pr sc qt qh mn qm qd))] sz) := by
  refine Met.ofW (cc := cX3_placeOnMark) (maxL := 1) (ret := (some .int)) (by decide) rfl ?_
  intro p e s m args below meth c s₁ B hml hv
  obtain ⟨rfl, hsz, hP, hK, hD0⟩ := hv
  have hx := B.exec
  have hb := B.bytes
  have hr := B.returns
  have hts := atoms_spec (ws := wsX3_placeOnMark) B.pre
  have hown : s.vm.findClass RX3 = some m.cls := findClass_of_methodNamed B.named
  have hlocks := B.notSynchronized
  subst hsz
  have hD := hD0.self (sz := s.heap.size)
  generalize hAe : va_A [(fa, .inr (3, fg_ kd pn pt qx qy qs pr sc qt qh mn qm qd))] s.heap.size = A at hD ⊢
  have hA : ∀ q : Nat, s.heap.size ≤ q → A q := fun q h => by rw [← hAe]; exact Or.inr h
  have hS : va_S A s.heap s.heap [] := va_S.rf
  have hP : va_P g vwCl [(fa, .inr (3, fg_ kd pn pt qx qy qs pr sc qt qh mn qm qd))] s.heap := hP
  have hl := lv_entry ([.ref fa]) (n := 1) (Nat.le_of_ble_eq_true rfl)
  rw [lg_entry_eq]
  generalize (lg_sl ([.ref fa]) ++ List.replicate (1 - (lg_sl ([.ref fa])).length) Slot.unset).toArray = ls at hl ⊢
  have hl : lv_has ls 1 [(0, .ref fa)] := hl
  have hH0 : s.heap = s.heap := rfl
  have hiX3 := ikX3_placeOnMark_X3
  refine lv_aload_n hx hb dX3_placeOnMark_0 rfl (lv_at hl 0 rfl) ?_
  refine va_get (D := g) (ci := 3) (v := .int kd) (C := RX3) (T := TX3) (N := 13) hx hb hts hiX3 hown hK hP 0 rfl rfl 0 (by decide) (hts (.fieldLink RX3 9 "ShapeRelator$Figure" "kind" "I") (List.mem_of_getElem? (i := 1) rfl)) (fun _ h9 => h9) rfl dX3_placeOnMark_1 ?_
  refine lv_iconst (v := 2) hx hb dX3_placeOnMark_4 (by decide) ?_
  refine lv_icmp_ne (tgt := 12) hx hb dX3_placeOnMark_5 (by decide) (fun h1 => ?_) (fun h1 => ?_)
  · refine lv_iconst (v := 0) hx hb dX3_placeOnMark_12 (by decide) ?_
    have hP9 := hP.sub (ws' := [(fa, .inr (3, fg_ kd pn pt qx qy qs pr sc qt qh mn qm qd))]) [0] rfl
    have hD9 := hD.sub (ws' := [(fa, .inr (3, fg_ kd pn pt qx qy qs pr sc qt qh mn qm qd))]) [0] (by decide) rfl
    exact W.iret (v := 0) hx hb hr (fun t ht hW => ⟨⟨0, (), rfl, by unfold pom_; rw [if_neg h1], by rw [ht]; exact hP9, va_K.moved hW.alike hK, hD9⟩, hS.F ht⟩) hS.2.2 dX3_placeOnMark_13
  · refine lv_iconst (v := 1) hx hb dX3_placeOnMark_8 (by decide) ?_
    refine lv_goto (tgt := 13) hx hb dX3_placeOnMark_9 (by decide) ?_
    have hP9 := hP.sub (ws' := [(fa, .inr (3, fg_ kd pn pt qx qy qs pr sc qt qh mn qm qd))]) [0] rfl
    have hD9 := hD.sub (ws' := [(fa, .inr (3, fg_ kd pn pt qx qy qs pr sc qt qh mn qm qd))]) [0] (by decide) rfl
    exact W.iret (v := 1) hx hb hr (fun t ht hW => ⟨⟨1, (), rfl, by unfold pom_; rw [if_pos h1], by rw [ht]; exact hP9, va_K.moved hW.alike hK, hD9⟩, hS.F ht⟩) hS.2.2 dX3_placeOnMark_13

theorem ikX3_placeOnSegment_X3 : ∀ w ∈ wsX30, w ∈ wsX3_placeOnSegment := by decide +kernel
set_option maxHeartbeats 1000000 in
set_option maxRecDepth 100000 in
theorem kX3_placeOnSegment (l : Launch) (g : va_G) (cI cJ cZ : ClassId) (sz : Nat) (fa : Nat) (kd : Int32) (pn : Int32) (pt : Int32) (qx : Nat) (qy : Nat) (qs : Nat) (pr : Int32) (sc : Int32) (qt : Nat) (qh : Nat) (mn : Int32) (qm : Nat) (qd : Nat)  : Met l yX3_placeOnSegment wsX3_placeOnSegment ({ frames := 0, cells := 0, slots := 0, locals := 0 }) (pc_ g cI cJ cZ [.ref fa] [(fa, .inr (3, fg_ kd pn pt qx qy qs pr sc qt qh mn qm qd))] sz) (va_Qi (fun (r : Int32) (_ : Unit) => r = pos_ kd) (fun (_ : Unit) t => wd_ g cI cJ cZ (va_A [(fa, .inr (3, fg_ kd pn pt qx qy qs pr sc qt qh mn qm qd))] sz) [(fa, .inr (3, fg_ kd pn pt qx qy qs pr sc qt qh mn qm qd))] t) (va_A [(fa, .inr (3, fg_ kd pn pt qx qy qs pr sc qt qh mn qm qd))] sz)) (0) (0) (va_A [(fa, .inr (3, fg_ kd pn pt qx qy qs pr sc qt qh mn qm qd))] sz) := by
  refine Met.ofW (cc := cX3_placeOnSegment) (maxL := 1) (ret := (some .int)) (by decide) rfl ?_
  intro p e s m args below meth c s₁ B hml hv
  obtain ⟨rfl, hsz, hP, hK, hD0⟩ := hv
  have hx := B.exec
  have hb := B.bytes
  have hr := B.returns
  have hts := atoms_spec (ws := wsX3_placeOnSegment) B.pre
  have hown : s.vm.findClass RX3 = some m.cls := findClass_of_methodNamed B.named
  have hlocks := B.notSynchronized
  subst hsz
  have hD := hD0.self (sz := s.heap.size)
  generalize hAe : va_A [(fa, .inr (3, fg_ kd pn pt qx qy qs pr sc qt qh mn qm qd))] s.heap.size = A at hD ⊢
  have hA : ∀ q : Nat, s.heap.size ≤ q → A q := fun q h => by rw [← hAe]; exact Or.inr h
  have hS : va_S A s.heap s.heap [] := va_S.rf
  have hP : va_P g vwCl [(fa, .inr (3, fg_ kd pn pt qx qy qs pr sc qt qh mn qm qd))] s.heap := hP
  have hl := lv_entry ([.ref fa]) (n := 1) (Nat.le_of_ble_eq_true rfl)
  rw [lg_entry_eq]
  generalize (lg_sl ([.ref fa]) ++ List.replicate (1 - (lg_sl ([.ref fa])).length) Slot.unset).toArray = ls at hl ⊢
  have hl : lv_has ls 1 [(0, .ref fa)] := hl
  have hH0 : s.heap = s.heap := rfl
  have hiX3 := ikX3_placeOnSegment_X3
  refine lv_aload_n hx hb dX3_placeOnSegment_0 rfl (lv_at hl 0 rfl) ?_
  refine va_get (D := g) (ci := 3) (v := .int kd) (C := RX3) (T := TX3) (N := 13) hx hb hts hiX3 hown hK hP 0 rfl rfl 0 (by decide) (hts (.fieldLink RX3 9 "ShapeRelator$Figure" "kind" "I") (List.mem_of_getElem? (i := 1) rfl)) (fun _ h9 => h9) rfl dX3_placeOnSegment_1 ?_
  refine lv_iconst (v := 2) hx hb dX3_placeOnSegment_4 (by decide) ?_
  refine lv_icmp_ne (tgt := 12) hx hb dX3_placeOnSegment_5 (by decide) (fun h1 => ?_) (fun h1 => ?_)
  · refine lv_iconst (v := 1) hx hb dX3_placeOnSegment_12 (by decide) ?_
    have hP9 := hP.sub (ws' := [(fa, .inr (3, fg_ kd pn pt qx qy qs pr sc qt qh mn qm qd))]) [0] rfl
    have hD9 := hD.sub (ws' := [(fa, .inr (3, fg_ kd pn pt qx qy qs pr sc qt qh mn qm qd))]) [0] (by decide) rfl
    exact W.iret (v := 1) hx hb hr (fun t ht hW => ⟨⟨1, (), rfl, by unfold pos_; rw [if_neg h1], by rw [ht]; exact hP9, va_K.moved hW.alike hK, hD9⟩, hS.F ht⟩) hS.2.2 dX3_placeOnSegment_13
  · refine lv_iconst (v := 0) hx hb dX3_placeOnSegment_8 (by decide) ?_
    refine lv_goto (tgt := 13) hx hb dX3_placeOnSegment_9 (by decide) ?_
    have hP9 := hP.sub (ws' := [(fa, .inr (3, fg_ kd pn pt qx qy qs pr sc qt qh mn qm qd))]) [0] rfl
    have hD9 := hD.sub (ws' := [(fa, .inr (3, fg_ kd pn pt qx qy qs pr sc qt qh mn qm qd))]) [0] (by decide) rfl
    exact W.iret (v := 0) hx hb hr (fun t ht hW => ⟨⟨0, (), rfl, by unfold pos_; rw [if_pos h1], by rw [ht]; exact hP9, va_K.moved hW.alike hK, hD9⟩, hS.F ht⟩) hS.2.2 dX3_placeOnSegment_13

theorem ikX3_placeOffSegments_X3 : ∀ w ∈ wsX30, w ∈ wsX3_placeOffSegments := by decide +kernel
set_option maxHeartbeats 1000000 in
set_option maxRecDepth 100000 in
theorem kX3_placeOffSegments (l : Launch) (g : va_G) (cI cJ cZ : ClassId) (sz : Nat) (fa : Nat) (kd : Int32) (pn : Int32) (pt : Int32) (qx : Nat) (qy : Nat) (qs : Nat) (pr : Int32) (sc : Int32) (qt : Nat) (qh : Nat) (mn : Int32) (qm : Nat) (qd : Nat) (b : Int32)  : Met l yX3_placeOffSegments wsX3_placeOffSegments ({ frames := 0, cells := 0, slots := 0, locals := 0 }) (pc_ g cI cJ cZ [.ref fa, .int b] [(fa, .inr (3, fg_ kd pn pt qx qy qs pr sc qt qh mn qm qd))] sz) (va_Qi (fun (r : Int32) (_ : Unit) => r = pof_ kd b) (fun (_ : Unit) t => wd_ g cI cJ cZ (va_A [(fa, .inr (3, fg_ kd pn pt qx qy qs pr sc qt qh mn qm qd))] sz) [(fa, .inr (3, fg_ kd pn pt qx qy qs pr sc qt qh mn qm qd))] t) (va_A [(fa, .inr (3, fg_ kd pn pt qx qy qs pr sc qt qh mn qm qd))] sz)) (0) (0) (va_A [(fa, .inr (3, fg_ kd pn pt qx qy qs pr sc qt qh mn qm qd))] sz) := by
  refine Met.ofW (cc := cX3_placeOffSegments) (maxL := 2) (ret := (some .int)) (by decide) rfl ?_
  intro p e s m args below meth c s₁ B hml hv
  obtain ⟨rfl, hsz, hP, hK, hD0⟩ := hv
  have hx := B.exec
  have hb := B.bytes
  have hr := B.returns
  have hts := atoms_spec (ws := wsX3_placeOffSegments) B.pre
  have hown : s.vm.findClass RX3 = some m.cls := findClass_of_methodNamed B.named
  have hlocks := B.notSynchronized
  subst hsz
  have hD := hD0.self (sz := s.heap.size)
  generalize hAe : va_A [(fa, .inr (3, fg_ kd pn pt qx qy qs pr sc qt qh mn qm qd))] s.heap.size = A at hD ⊢
  have hA : ∀ q : Nat, s.heap.size ≤ q → A q := fun q h => by rw [← hAe]; exact Or.inr h
  have hS : va_S A s.heap s.heap [] := va_S.rf
  have hP : va_P g vwCl [(fa, .inr (3, fg_ kd pn pt qx qy qs pr sc qt qh mn qm qd))] s.heap := hP
  have hl := lv_entry ([.ref fa, .int b]) (n := 2) (Nat.le_of_ble_eq_true rfl)
  rw [lg_entry_eq]
  generalize (lg_sl ([.ref fa, .int b]) ++ List.replicate (2 - (lg_sl ([.ref fa, .int b])).length) Slot.unset).toArray = ls at hl ⊢
  have hl : lv_has ls 2 [(0, .ref fa), (1, .int b)] := hl
  have hH0 : s.heap = s.heap := rfl
  have hiX3 := ikX3_placeOffSegments_X3
  refine lv_aload_n hx hb dX3_placeOffSegments_0 rfl (lv_at hl 0 rfl) ?_
  refine va_get (D := g) (ci := 3) (v := .int kd) (C := RX3) (T := TX3) (N := 13) hx hb hts hiX3 hown hK hP 0 rfl rfl 0 (by decide) (hts (.fieldLink RX3 9 "ShapeRelator$Figure" "kind" "I") (List.mem_of_getElem? (i := 1) rfl)) (fun _ h9 => h9) rfl dX3_placeOffSegments_1 ?_
  refine lv_iconst (v := 3) hx hb dX3_placeOffSegments_4 (by decide) ?_
  refine lv_icmp_ne (tgt := 16) hx hb dX3_placeOffSegments_5 (by decide) (fun h1 => ?_) (fun h1 => ?_)
  · refine lv_iconst (v := 2) hx hb dX3_placeOffSegments_16 (by decide) ?_
    have hP9 := hP.sub (ws' := [(fa, .inr (3, fg_ kd pn pt qx qy qs pr sc qt qh mn qm qd))]) [0] rfl
    have hD9 := hD.sub (ws' := [(fa, .inr (3, fg_ kd pn pt qx qy qs pr sc qt qh mn qm qd))]) [0] (by decide) rfl
    exact W.iret (v := 2) hx hb hr (fun t ht hW => ⟨⟨2, (), rfl, by unfold pof_; rw [if_neg (fun h => h1 h.1)], by rw [ht]; exact hP9, va_K.moved hW.alike hK, hD9⟩, hS.F ht⟩) hS.2.2 dX3_placeOffSegments_17
  · refine lv_iload_n hx hb dX3_placeOffSegments_8 rfl (lv_at hl 1 rfl) ?_
    refine lv_if_eq (tgt := 16) hx hb dX3_placeOffSegments_9 (by decide) (fun h2 => ?_) (fun h2 => ?_)
    · refine lv_iconst (v := 2) hx hb dX3_placeOffSegments_16 (by decide) ?_
      have hP9 := hP.sub (ws' := [(fa, .inr (3, fg_ kd pn pt qx qy qs pr sc qt qh mn qm qd))]) [0] rfl
      have hD9 := hD.sub (ws' := [(fa, .inr (3, fg_ kd pn pt qx qy qs pr sc qt qh mn qm qd))]) [0] (by decide) rfl
      exact W.iret (v := 2) hx hb hr (fun t ht hW => ⟨⟨2, (), rfl, by unfold pof_; rw [if_neg (fun h => h.2 h2)], by rw [ht]; exact hP9, va_K.moved hW.alike hK, hD9⟩, hS.F ht⟩) hS.2.2 dX3_placeOffSegments_17
    · refine lv_iconst (v := 0) hx hb dX3_placeOffSegments_12 (by decide) ?_
      refine lv_goto (tgt := 17) hx hb dX3_placeOffSegments_13 (by decide) ?_
      have hP9 := hP.sub (ws' := [(fa, .inr (3, fg_ kd pn pt qx qy qs pr sc qt qh mn qm qd))]) [0] rfl
      have hD9 := hD.sub (ws' := [(fa, .inr (3, fg_ kd pn pt qx qy qs pr sc qt qh mn qm qd))]) [0] (by decide) rfl
      exact W.iret (v := 0) hx hb hr (fun t ht hW => ⟨⟨0, (), rfl, by unfold pof_; rw [if_pos ⟨h1, h2⟩], by rw [ht]; exact hP9, va_K.moved hW.alike hK, hD9⟩, hS.F ht⟩) hS.2.2 dX3_placeOffSegments_17

theorem ikX1_forgetPlace_X1 : ∀ w ∈ wsX10, w ∈ wsX1_forgetPlace := by decide +kernel
set_option maxHeartbeats 1000000 in
set_option maxRecDepth 100000 in
theorem kX1_forgetPlace (l : Launch) (g : va_G) (cI cJ cZ : ClassId) (sz : Nat) (ka : Nat) (fa : Nat) (sg : Int32) (cv : Int32) (cg : Int32) (mt : Int32) (mk : Int32) (tu : Int32) (th : Int32)  : Met l yX1_forgetPlace wsX1_forgetPlace ({ frames := 0, cells := 0, slots := 0, locals := 0 }) (pc_ g cI cJ cZ [.ref ka] [(ka, .inr (1, co_ fa sg cv cg mt mk tu th))] sz) (va_Qv (fun (_ : Unit) => True) (fun (_ : Unit) t => wd_ g cI cJ cZ (va_A [(ka, .inr (1, co_ fa sg cv cg mt mk tu th))] sz) [(ka, .inr (1, co_ fa sg cv 0 0 0 tu 0))] t) (va_A [(ka, .inr (1, co_ fa sg cv cg mt mk tu th))] sz)) (0) (0) (va_A [(ka, .inr (1, co_ fa sg cv cg mt mk tu th))] sz) := by
  refine Met.ofW (cc := cX1_forgetPlace) (maxL := 1) (ret := none) (by decide) rfl ?_
  intro p e s m args below meth c s₁ B hml hv
  obtain ⟨rfl, hsz, hP, hK, hD0⟩ := hv
  have hx := B.exec
  have hb := B.bytes
  have hr := B.returns
  have hts := atoms_spec (ws := wsX1_forgetPlace) B.pre
  have hown : s.vm.findClass RX1 = some m.cls := findClass_of_methodNamed B.named
  have hlocks := B.notSynchronized
  subst hsz
  have hD := hD0.self (sz := s.heap.size)
  generalize hAe : va_A [(ka, .inr (1, co_ fa sg cv cg mt mk tu th))] s.heap.size = A at hD ⊢
  have hA : ∀ q : Nat, s.heap.size ≤ q → A q := fun q h => by rw [← hAe]; exact Or.inr h
  have hS : va_S A s.heap s.heap [] := va_S.rf
  have hP : va_P g vwCl [(ka, .inr (1, co_ fa sg cv cg mt mk tu th))] s.heap := hP
  have hl := lv_entry ([.ref ka]) (n := 1) (Nat.le_of_ble_eq_true rfl)
  rw [lg_entry_eq]
  generalize (lg_sl ([.ref ka]) ++ List.replicate (1 - (lg_sl ([.ref ka])).length) Slot.unset).toArray = ls at hl ⊢
  have hl : lv_has ls 1 [(0, .ref ka)] := hl
  have hH0 : s.heap = s.heap := rfl
  have hiX1 := ikX1_forgetPlace_X1
  refine lv_aload_n hx hb dX1_forgetPlace_0 rfl (lv_at hl 0 rfl) ?_
  refine lv_iconst (v := 0) hx hb dX1_forgetPlace_1 (by decide) ?_
  refine va_put (D := g) (ci := 1) (v := .int 0) (ty := .int) (C := RX1) (T := TX1) (N := 8) hx hb hts hiX1 tyX1 tyX1_ok nmX1 hown hK hP hD hS 0 rfl rfl 3 (by decide) (hts (.fieldLink RX1 13 "ShapeRelator$Course" "coversGained" "I") (List.mem_of_getElem? (i := 1) rfl)) (fun _ h9 => h9) rfl (by decide +kernel) rfl rfl (Nat.le_of_ble_eq_true rfl) dX1_forgetPlace_2 (fun H locs hP hD hS => ?_)
  have hP : va_P g vwCl [(ka, .inr (1, co_ fa sg cv 0 mt mk tu th))] H := hP
  have hD : va_D A [(ka, .inr (1, co_ fa sg cv 0 mt mk tu th))] := hD
  refine lv_aload_n hx hb dX1_forgetPlace_5 rfl (lv_at hl 0 rfl) ?_
  refine lv_iconst (v := 0) hx hb dX1_forgetPlace_6 (by decide) ?_
  refine va_put (D := g) (ci := 1) (v := .int 0) (ty := .boolean) (C := RX1) (T := TX1) (N := 8) hx hb hts hiX1 tyX1 tyX1_ok nmX1 hown hK hP hD hS 0 rfl rfl 4 (by decide) (hts (.fieldLink RX1 16 "ShapeRelator$Course" "meets" "Z") (List.mem_of_getElem? (i := 2) rfl)) (fun _ h9 => h9) rfl (by decide +kernel) (by decide +kernel) (by decide +kernel) (Nat.le_of_ble_eq_true rfl) dX1_forgetPlace_7 (fun H locs hP hD hS => ?_)
  have hP : va_P g vwCl [(ka, .inr (1, co_ fa sg cv 0 0 mk tu th))] H := hP
  have hD : va_D A [(ka, .inr (1, co_ fa sg cv 0 0 mk tu th))] := hD
  refine lv_aload_n hx hb dX1_forgetPlace_10 rfl (lv_at hl 0 rfl) ?_
  refine lv_iconst (v := 0) hx hb dX1_forgetPlace_11 (by decide) ?_
  refine va_put (D := g) (ci := 1) (v := .int 0) (ty := .boolean) (C := RX1) (T := TX1) (N := 8) hx hb hts hiX1 tyX1 tyX1_ok nmX1 hown hK hP hD hS 0 rfl rfl 5 (by decide) (hts (.fieldLink RX1 20 "ShapeRelator$Course" "marked" "Z") (List.mem_of_getElem? (i := 3) rfl)) (fun _ h9 => h9) rfl (by decide +kernel) (by decide +kernel) (by decide +kernel) (Nat.le_of_ble_eq_true rfl) dX1_forgetPlace_12 (fun H locs hP hD hS => ?_)
  have hP : va_P g vwCl [(ka, .inr (1, co_ fa sg cv 0 0 0 tu th))] H := hP
  have hD : va_D A [(ka, .inr (1, co_ fa sg cv 0 0 0 tu th))] := hD
  refine lv_aload_n hx hb dX1_forgetPlace_15 rfl (lv_at hl 0 rfl) ?_
  refine lv_iconst (v := 0) hx hb dX1_forgetPlace_16 (by decide) ?_
  refine va_put (D := g) (ci := 1) (v := .int 0) (ty := .int) (C := RX1) (T := TX1) (N := 8) hx hb hts hiX1 tyX1 tyX1_ok nmX1 hown hK hP hD hS 0 rfl rfl 7 (by decide) (hts (.fieldLink RX1 26 "ShapeRelator$Course" "turnsHere" "I") (List.mem_of_getElem? (i := 4) rfl)) (fun _ h9 => h9) rfl (by decide +kernel) rfl rfl (Nat.le_of_ble_eq_true rfl) dX1_forgetPlace_17 (fun H locs hP hD hS => ?_)
  have hP : va_P g vwCl [(ka, .inr (1, co_ fa sg cv 0 0 0 tu 0))] H := hP
  have hD : va_D A [(ka, .inr (1, co_ fa sg cv 0 0 0 tu 0))] := hD
  have hP9 := hP.sub (ws' := [(ka, .inr (1, co_ fa sg cv 0 0 0 tu 0))]) [0] rfl
  have hD9 := hD.sub (ws' := [(ka, .inr (1, co_ fa sg cv 0 0 0 tu 0))]) [0] (by decide) rfl
  exact W.vret hx hb hr (fun t ht hW => ⟨⟨(), rfl, trivial, by rw [ht]; exact hP9, va_K.moved hW.alike hK, hD9⟩, hS.F ht⟩) hS.2.2 dX1_forgetPlace_20

theorem ikX1_start_X1 : ∀ w ∈ wsX10, w ∈ wsX1_start := by decide +kernel
set_option maxHeartbeats 1000000 in
set_option maxRecDepth 100000 in
theorem kX1_start (l : Launch) (g : va_G) (cI cJ cZ : ClassId) (sz : Nat) (ka : Nat) (fa : Nat) (sg : Int32) (cv : Int32) (cg : Int32) (mt : Int32) (mk : Int32) (tu : Int32) (th : Int32)  : Met l yX1_start wsX1_start ({ frames := 1, cells := 0, slots := 0, locals := 20 }) (pc_ g cI cJ cZ [.ref ka] [(ka, .inr (1, co_ fa sg cv cg mt mk tu th))] sz) (va_Qv (fun (_ : Unit) => True) (fun (_ : Unit) t => wd_ g cI cJ cZ (va_A [(ka, .inr (1, co_ fa sg cv cg mt mk tu th))] sz) [(ka, .inr (1, co_ fa sg 0 0 0 0 0 0))] t) (va_A [(ka, .inr (1, co_ fa sg cv cg mt mk tu th))] sz)) (0) (0) (va_A [(ka, .inr (1, co_ fa sg cv cg mt mk tu th))] sz) := by
  refine Met.ofW (cc := cX1_start) (maxL := 1) (ret := none) (by decide) rfl ?_
  intro p e s m args below meth c s₁ B hml hv
  obtain ⟨rfl, hsz, hP, hK, hD0⟩ := hv
  have hx := B.exec
  have hb := B.bytes
  have hr := B.returns
  have hts := atoms_spec (ws := wsX1_start) B.pre
  have hown : s.vm.findClass RX1 = some m.cls := findClass_of_methodNamed B.named
  have hlocks := B.notSynchronized
  subst hsz
  have hD := hD0.self (sz := s.heap.size)
  generalize hAe : va_A [(ka, .inr (1, co_ fa sg cv cg mt mk tu th))] s.heap.size = A at hD ⊢
  have hA : ∀ q : Nat, s.heap.size ≤ q → A q := fun q h => by rw [← hAe]; exact Or.inr h
  have hS : va_S A s.heap s.heap [] := va_S.rf
  have hP : va_P g vwCl [(ka, .inr (1, co_ fa sg cv cg mt mk tu th))] s.heap := hP
  have hl := lv_entry ([.ref ka]) (n := 1) (Nat.le_of_ble_eq_true rfl)
  rw [lg_entry_eq]
  generalize (lg_sl ([.ref ka]) ++ List.replicate (1 - (lg_sl ([.ref ka])).length) Slot.unset).toArray = ls at hl ⊢
  have hl : lv_has ls 1 [(0, .ref ka)] := hl
  have hH0 : s.heap = s.heap := rfl
  have hiX1 := ikX1_start_X1
  refine lv_aload_n hx hb dX1_start_0 rfl (lv_at hl 0 rfl) ?_
  refine lv_iconst (v := 0) hx hb dX1_start_1 (by decide) ?_
  refine va_put (D := g) (ci := 1) (v := .int 0) (ty := .int) (C := RX1) (T := TX1) (N := 8) hx hb hts hiX1 tyX1 tyX1_ok nmX1 hown hK hP hD hS 0 rfl rfl 2 (by decide) (hts (.fieldLink RX1 7 "ShapeRelator$Course" "covers" "I") (List.mem_of_getElem? (i := 1) rfl)) (fun _ h9 => h9) rfl (by decide +kernel) rfl rfl (Nat.le_of_ble_eq_true rfl) dX1_start_2 (fun H locs hP hD hS => ?_)
  have hP : va_P g vwCl [(ka, .inr (1, co_ fa sg 0 cg mt mk tu th))] H := hP
  have hD : va_D A [(ka, .inr (1, co_ fa sg 0 cg mt mk tu th))] := hD
  refine lv_aload_n hx hb dX1_start_5 rfl (lv_at hl 0 rfl) ?_
  refine lv_iconst (v := 0) hx hb dX1_start_6 (by decide) ?_
  refine va_put (D := g) (ci := 1) (v := .int 0) (ty := .int) (C := RX1) (T := TX1) (N := 8) hx hb hts hiX1 tyX1 tyX1_ok nmX1 hown hK hP hD hS 0 rfl rfl 6 (by decide) (hts (.fieldLink RX1 23 "ShapeRelator$Course" "turnsAhead" "I") (List.mem_of_getElem? (i := 2) rfl)) (fun _ h9 => h9) rfl (by decide +kernel) rfl rfl (Nat.le_of_ble_eq_true rfl) dX1_start_7 (fun H locs hP hD hS => ?_)
  have hP : va_P g vwCl [(ka, .inr (1, co_ fa sg 0 cg mt mk 0 th))] H := hP
  have hD : va_D A [(ka, .inr (1, co_ fa sg 0 cg mt mk 0 th))] := hD
  refine lv_aload_n hx hb dX1_start_10 rfl (lv_at hl 0 rfl) ?_
  have hPc := hP.sub (ws' := [(ka, .inr (1, co_ fa sg 0 cg mt mk 0 th))]) [0] rfl
  have hDc := hD.sub (ws' := [(ka, .inr (1, co_ fa sg 0 cg mt mk 0 th))]) [0] (by decide) rfl
  have hFc := va_free (wc := [(ka, .inr (1, co_ fa sg 0 cg mt mk 0 th))]) hD hS hA [0] rfl
  refine va_callv (va_runV (As := []) (rest := []) ⟨hx, hb, hml, hown, hts⟩ (kX1_forgetPlace l g cI cJ cZ H.size ka fa sg 0 cg mt mk 0 th) (cwV 0 hts gX1_start_X1_forgetPlace rfl rfl rfl (by decide +kernel) ⟨Nat.le_of_ble_eq_true rfl, Nat.le_of_ble_eq_true rfl⟩) (pv_ hK hPc hDc (va_recv hK hPc (ci := 1) (q0 := 0) rfl rfl)) rfl rfl hl.1 rfl (lv_room (Nat.le_of_ble_eq_true rfl)) dX1_start_11 ⟨Nat.zero_le _, Nat.zero_le _⟩) hS (fun q _ h => hFc q h) hFc (fun u t H1 locs ht hvm hw hB hz1 hk1 hS => ?_)
  obtain ⟨hP1, hK1, hD1⟩ := hB
  rw [ht] at hP1
  obtain ⟨hP, hD⟩ := va_join (wr := []) (w1 := [(ka, .inr (1, co_ fa sg 0 0 0 0 0 0))]) hP hD [0] [] rfl rfl (by decide) (by decide) hk1 hFc hP1 hD1
  clear hPc hDc hFc hP1 hD1 hK1 hk1 hz1 hvm ht
  generalize H1 = H at hP hS ⊢
  have hP : va_P g vwCl [(ka, .inr (1, co_ fa sg 0 0 0 0 0 0))] H := hP
  have hD : va_D A [(ka, .inr (1, co_ fa sg 0 0 0 0 0 0))] := hD
  have hP9 := hP.sub (ws' := [(ka, .inr (1, co_ fa sg 0 0 0 0 0 0))]) [0] rfl
  have hD9 := hD.sub (ws' := [(ka, .inr (1, co_ fa sg 0 0 0 0 0 0))]) [0] (by decide) rfl
  exact W.vret hx hb hr (fun t ht hW => ⟨⟨(), rfl, trivial, by rw [ht]; exact hP9, va_K.moved hW.alike hK, hD9⟩, hS.F ht⟩) hS.2.2 dX1_start_14

theorem ikX1_turnAhead_X1 : ∀ w ∈ wsX10, w ∈ wsX1_turnAhead := by decide +kernel
set_option maxHeartbeats 1000000 in
set_option maxRecDepth 100000 in
theorem kX1_turnAhead (l : Launch) (g : va_G) (cI cJ cZ : ClassId) (sz : Nat) (ka : Nat) (fa : Nat) (sg : Int32) (cv : Int32) (cg : Int32) (mt : Int32) (mk : Int32) (tu : Int32) (th : Int32) (t1 : Int32)  : Met l yX1_turnAhead wsX1_turnAhead ({ frames := 0, cells := 0, slots := 0, locals := 0 }) (pc_ g cI cJ cZ [.ref ka, .int t1] [(ka, .inr (1, co_ fa sg cv cg mt mk tu th))] sz) (va_Qv (fun (_ : Unit) => True) (fun (_ : Unit) t => wd_ g cI cJ cZ (va_A [(ka, .inr (1, co_ fa sg cv cg mt mk tu th))] sz) [(ka, .inr (1, co_ fa sg cv cg mt mk (tu ^^^ t1) th))] t) (va_A [(ka, .inr (1, co_ fa sg cv cg mt mk tu th))] sz)) (0) (0) (va_A [(ka, .inr (1, co_ fa sg cv cg mt mk tu th))] sz) := by
  refine Met.ofW (cc := cX1_turnAhead) (maxL := 2) (ret := none) (by decide) rfl ?_
  intro p e s m args below meth c s₁ B hml hv
  obtain ⟨rfl, hsz, hP, hK, hD0⟩ := hv
  have hx := B.exec
  have hb := B.bytes
  have hr := B.returns
  have hts := atoms_spec (ws := wsX1_turnAhead) B.pre
  have hown : s.vm.findClass RX1 = some m.cls := findClass_of_methodNamed B.named
  have hlocks := B.notSynchronized
  subst hsz
  have hD := hD0.self (sz := s.heap.size)
  generalize hAe : va_A [(ka, .inr (1, co_ fa sg cv cg mt mk tu th))] s.heap.size = A at hD ⊢
  have hA : ∀ q : Nat, s.heap.size ≤ q → A q := fun q h => by rw [← hAe]; exact Or.inr h
  have hS : va_S A s.heap s.heap [] := va_S.rf
  have hP : va_P g vwCl [(ka, .inr (1, co_ fa sg cv cg mt mk tu th))] s.heap := hP
  have hl := lv_entry ([.ref ka, .int t1]) (n := 2) (Nat.le_of_ble_eq_true rfl)
  rw [lg_entry_eq]
  generalize (lg_sl ([.ref ka, .int t1]) ++ List.replicate (2 - (lg_sl ([.ref ka, .int t1])).length) Slot.unset).toArray = ls at hl ⊢
  have hl : lv_has ls 2 [(0, .ref ka), (1, .int t1)] := hl
  have hH0 : s.heap = s.heap := rfl
  have hiX1 := ikX1_turnAhead_X1
  refine lv_aload_n hx hb dX1_turnAhead_0 rfl (lv_at hl 0 rfl) ?_
  refine lv_dup hx hb dX1_turnAhead_1 rfl ?_
  refine va_get (D := g) (ci := 1) (v := .int tu) (C := RX1) (T := TX1) (N := 8) hx hb hts hiX1 hown hK hP 0 rfl rfl 6 (by decide) (hts (.fieldLink RX1 23 "ShapeRelator$Course" "turnsAhead" "I") (List.mem_of_getElem? (i := 1) rfl)) (fun _ h9 => h9) rfl dX1_turnAhead_2 ?_
  refine lv_iload_n hx hb dX1_turnAhead_5 rfl (lv_at hl 1 rfl) ?_
  refine lv_ixor hx hb dX1_turnAhead_6 ?_
  refine va_put (D := g) (ci := 1) (v := .int (tu ^^^ t1)) (ty := .int) (C := RX1) (T := TX1) (N := 8) hx hb hts hiX1 tyX1 tyX1_ok nmX1 hown hK hP hD hS 0 rfl rfl 6 (by decide) (hts (.fieldLink RX1 23 "ShapeRelator$Course" "turnsAhead" "I") (List.mem_of_getElem? (i := 1) rfl)) (fun _ h9 => h9) rfl (by decide +kernel) rfl rfl (Nat.le_of_ble_eq_true rfl) dX1_turnAhead_7 (fun H locs hP hD hS => ?_)
  have hP : va_P g vwCl [(ka, .inr (1, co_ fa sg cv cg mt mk (tu ^^^ t1) th))] H := hP
  have hD : va_D A [(ka, .inr (1, co_ fa sg cv cg mt mk (tu ^^^ t1) th))] := hD
  have hP9 := hP.sub (ws' := [(ka, .inr (1, co_ fa sg cv cg mt mk (tu ^^^ t1) th))]) [0] rfl
  have hD9 := hD.sub (ws' := [(ka, .inr (1, co_ fa sg cv cg mt mk (tu ^^^ t1) th))]) [0] (by decide) rfl
  exact W.vret hx hb hr (fun t ht hW => ⟨⟨(), rfl, trivial, by rw [ht]; exact hP9, va_K.moved hW.alike hK, hD9⟩, hS.F ht⟩) hS.2.2 dX1_turnAhead_10

theorem ikX1_depart_X1 : ∀ w ∈ wsX10, w ∈ wsX1_depart := by decide +kernel
set_option maxHeartbeats 1000000 in
set_option maxRecDepth 100000 in
theorem kX1_depart (l : Launch) (g : va_G) (cI cJ cZ : ClassId) (sz : Nat) (ka : Nat) (fa : Nat) (sg : Int32) (cv : Int32) (cg : Int32) (mt : Int32) (mk : Int32) (tu : Int32) (th : Int32)  : Met l yX1_depart wsX1_depart ({ frames := 1, cells := 0, slots := 0, locals := 20 }) (pc_ g cI cJ cZ [.ref ka] [(ka, .inr (1, co_ fa sg cv cg mt mk tu th))] sz) (va_Qv (fun (_ : Unit) => True) (fun (_ : Unit) t => wd_ g cI cJ cZ (va_A [(ka, .inr (1, co_ fa sg cv cg mt mk tu th))] sz) [(ka, .inr (1, co_ fa sg (cv + cg) 0 0 0 (tu ^^^ th) 0))] t) (va_A [(ka, .inr (1, co_ fa sg cv cg mt mk tu th))] sz)) (0) (0) (va_A [(ka, .inr (1, co_ fa sg cv cg mt mk tu th))] sz) := by
  refine Met.ofW (cc := cX1_depart) (maxL := 1) (ret := none) (by decide) rfl ?_
  intro p e s m args below meth c s₁ B hml hv
  obtain ⟨rfl, hsz, hP, hK, hD0⟩ := hv
  have hx := B.exec
  have hb := B.bytes
  have hr := B.returns
  have hts := atoms_spec (ws := wsX1_depart) B.pre
  have hown : s.vm.findClass RX1 = some m.cls := findClass_of_methodNamed B.named
  have hlocks := B.notSynchronized
  subst hsz
  have hD := hD0.self (sz := s.heap.size)
  generalize hAe : va_A [(ka, .inr (1, co_ fa sg cv cg mt mk tu th))] s.heap.size = A at hD ⊢
  have hA : ∀ q : Nat, s.heap.size ≤ q → A q := fun q h => by rw [← hAe]; exact Or.inr h
  have hS : va_S A s.heap s.heap [] := va_S.rf
  have hP : va_P g vwCl [(ka, .inr (1, co_ fa sg cv cg mt mk tu th))] s.heap := hP
  have hl := lv_entry ([.ref ka]) (n := 1) (Nat.le_of_ble_eq_true rfl)
  rw [lg_entry_eq]
  generalize (lg_sl ([.ref ka]) ++ List.replicate (1 - (lg_sl ([.ref ka])).length) Slot.unset).toArray = ls at hl ⊢
  have hl : lv_has ls 1 [(0, .ref ka)] := hl
  have hH0 : s.heap = s.heap := rfl
  have hiX1 := ikX1_depart_X1
  refine lv_aload_n hx hb dX1_depart_0 rfl (lv_at hl 0 rfl) ?_
  refine lv_dup hx hb dX1_depart_1 rfl ?_
  refine va_get (D := g) (ci := 1) (v := .int cv) (C := RX1) (T := TX1) (N := 8) hx hb hts hiX1 hown hK hP 0 rfl rfl 2 (by decide) (hts (.fieldLink RX1 7 "ShapeRelator$Course" "covers" "I") (List.mem_of_getElem? (i := 1) rfl)) (fun _ h9 => h9) rfl dX1_depart_2 ?_
  refine lv_aload_n hx hb dX1_depart_5 rfl (lv_at hl 0 rfl) ?_
  refine va_get (D := g) (ci := 1) (v := .int cg) (C := RX1) (T := TX1) (N := 8) hx hb hts hiX1 hown hK hP 0 rfl rfl 3 (by decide) (hts (.fieldLink RX1 13 "ShapeRelator$Course" "coversGained" "I") (List.mem_of_getElem? (i := 2) rfl)) (fun _ h9 => h9) rfl dX1_depart_6 ?_
  refine lv_iadd hx hb dX1_depart_9 ?_
  refine va_put (D := g) (ci := 1) (v := .int (cv + cg)) (ty := .int) (C := RX1) (T := TX1) (N := 8) hx hb hts hiX1 tyX1 tyX1_ok nmX1 hown hK hP hD hS 0 rfl rfl 2 (by decide) (hts (.fieldLink RX1 7 "ShapeRelator$Course" "covers" "I") (List.mem_of_getElem? (i := 1) rfl)) (fun _ h9 => h9) rfl (by decide +kernel) rfl rfl (Nat.le_of_ble_eq_true rfl) dX1_depart_10 (fun H locs hP hD hS => ?_)
  have hP : va_P g vwCl [(ka, .inr (1, co_ fa sg (cv + cg) cg mt mk tu th))] H := hP
  have hD : va_D A [(ka, .inr (1, co_ fa sg (cv + cg) cg mt mk tu th))] := hD
  refine lv_aload_n hx hb dX1_depart_13 rfl (lv_at hl 0 rfl) ?_
  refine lv_dup hx hb dX1_depart_14 rfl ?_
  refine va_get (D := g) (ci := 1) (v := .int tu) (C := RX1) (T := TX1) (N := 8) hx hb hts hiX1 hown hK hP 0 rfl rfl 6 (by decide) (hts (.fieldLink RX1 23 "ShapeRelator$Course" "turnsAhead" "I") (List.mem_of_getElem? (i := 3) rfl)) (fun _ h9 => h9) rfl dX1_depart_15 ?_
  refine lv_aload_n hx hb dX1_depart_18 rfl (lv_at hl 0 rfl) ?_
  refine va_get (D := g) (ci := 1) (v := .int th) (C := RX1) (T := TX1) (N := 8) hx hb hts hiX1 hown hK hP 0 rfl rfl 7 (by decide) (hts (.fieldLink RX1 26 "ShapeRelator$Course" "turnsHere" "I") (List.mem_of_getElem? (i := 4) rfl)) (fun _ h9 => h9) rfl dX1_depart_19 ?_
  refine lv_ixor hx hb dX1_depart_22 ?_
  refine va_put (D := g) (ci := 1) (v := .int (tu ^^^ th)) (ty := .int) (C := RX1) (T := TX1) (N := 8) hx hb hts hiX1 tyX1 tyX1_ok nmX1 hown hK hP hD hS 0 rfl rfl 6 (by decide) (hts (.fieldLink RX1 23 "ShapeRelator$Course" "turnsAhead" "I") (List.mem_of_getElem? (i := 3) rfl)) (fun _ h9 => h9) rfl (by decide +kernel) rfl rfl (Nat.le_of_ble_eq_true rfl) dX1_depart_23 (fun H locs hP hD hS => ?_)
  have hP : va_P g vwCl [(ka, .inr (1, co_ fa sg (cv + cg) cg mt mk (tu ^^^ th) th))] H := hP
  have hD : va_D A [(ka, .inr (1, co_ fa sg (cv + cg) cg mt mk (tu ^^^ th) th))] := hD
  refine lv_aload_n hx hb dX1_depart_26 rfl (lv_at hl 0 rfl) ?_
  have hPc := hP.sub (ws' := [(ka, .inr (1, co_ fa sg (cv + cg) cg mt mk (tu ^^^ th) th))]) [0] rfl
  have hDc := hD.sub (ws' := [(ka, .inr (1, co_ fa sg (cv + cg) cg mt mk (tu ^^^ th) th))]) [0] (by decide) rfl
  have hFc := va_free (wc := [(ka, .inr (1, co_ fa sg (cv + cg) cg mt mk (tu ^^^ th) th))]) hD hS hA [0] rfl
  refine va_callv (va_runV (As := []) (rest := []) ⟨hx, hb, hml, hown, hts⟩ (kX1_forgetPlace l g cI cJ cZ H.size ka fa sg (cv + cg) cg mt mk (tu ^^^ th) th) (cwV 0 hts gX1_depart_X1_forgetPlace rfl rfl rfl (by decide +kernel) ⟨Nat.le_of_ble_eq_true rfl, Nat.le_of_ble_eq_true rfl⟩) (pv_ hK hPc hDc (va_recv hK hPc (ci := 1) (q0 := 0) rfl rfl)) rfl rfl hl.1 rfl (lv_room (Nat.le_of_ble_eq_true rfl)) dX1_depart_27 ⟨Nat.zero_le _, Nat.zero_le _⟩) hS (fun q _ h => hFc q h) hFc (fun u t H1 locs ht hvm hw hB hz1 hk1 hS => ?_)
  obtain ⟨hP1, hK1, hD1⟩ := hB
  rw [ht] at hP1
  obtain ⟨hP, hD⟩ := va_join (wr := []) (w1 := [(ka, .inr (1, co_ fa sg (cv + cg) 0 0 0 (tu ^^^ th) 0))]) hP hD [0] [] rfl rfl (by decide) (by decide) hk1 hFc hP1 hD1
  clear hPc hDc hFc hP1 hD1 hK1 hk1 hz1 hvm ht
  generalize H1 = H at hP hS ⊢
  have hP : va_P g vwCl [(ka, .inr (1, co_ fa sg (cv + cg) 0 0 0 (tu ^^^ th) 0))] H := hP
  have hD : va_D A [(ka, .inr (1, co_ fa sg (cv + cg) 0 0 0 (tu ^^^ th) 0))] := hD
  have hP9 := hP.sub (ws' := [(ka, .inr (1, co_ fa sg (cv + cg) 0 0 0 (tu ^^^ th) 0))]) [0] rfl
  have hD9 := hD.sub (ws' := [(ka, .inr (1, co_ fa sg (cv + cg) 0 0 0 (tu ^^^ th) 0))]) [0] (by decide) rfl
  exact W.vret hx hb hr (fun t ht hW => ⟨⟨(), rfl, trivial, by rw [ht]; exact hP9, va_K.moved hW.alike hK, hD9⟩, hS.F ht⟩) hS.2.2 dX1_depart_30

theorem ikX1_arrive_X1 : ∀ w ∈ wsX10, w ∈ wsX1_arrive := by decide +kernel
set_option maxHeartbeats 1000000 in
set_option maxRecDepth 100000 in
theorem kX1_arrive (l : Launch) (g : va_G) (cI cJ cZ : ClassId) (sz : Nat) (ka : Nat) (fa : Nat) (sg : Int32) (cv : Int32) (cg : Int32) (mt : Int32) (mk : Int32) (tu : Int32) (th : Int32) (ct : Int32)  : Met l yX1_arrive wsX1_arrive ({ frames := 0, cells := 0, slots := 0, locals := 0 }) (pc_ g cI cJ cZ [.ref ka, .int ct] [(ka, .inr (1, co_ fa sg cv cg mt mk tu th))] sz) (va_Qv (fun (cg2 : Int32) => cg2 = arc_ cg ct) (fun (cg2 : Int32) t => wd_ g cI cJ cZ (va_A [(ka, .inr (1, co_ fa sg cv cg mt mk tu th))] sz) [(ka, .inr (1, co_ fa sg cv cg2 (arm_ mt ct 1) (arm_ mk ct 2) tu (th ^^^ (ct &&& 48))))] t) (va_A [(ka, .inr (1, co_ fa sg cv cg mt mk tu th))] sz)) (0) (0) (va_A [(ka, .inr (1, co_ fa sg cv cg mt mk tu th))] sz) := by
  refine Met.ofW (cc := cX1_arrive) (maxL := 2) (ret := none) (by decide) rfl ?_
  intro p e s m args below meth c s₁ B hml hv
  obtain ⟨rfl, hsz, hP, hK, hD0⟩ := hv
  have hx := B.exec
  have hb := B.bytes
  have hr := B.returns
  have hts := atoms_spec (ws := wsX1_arrive) B.pre
  have hown : s.vm.findClass RX1 = some m.cls := findClass_of_methodNamed B.named
  have hlocks := B.notSynchronized
  subst hsz
  have hD := hD0.self (sz := s.heap.size)
  generalize hAe : va_A [(ka, .inr (1, co_ fa sg cv cg mt mk tu th))] s.heap.size = A at hD ⊢
  have hA : ∀ q : Nat, s.heap.size ≤ q → A q := fun q h => by rw [← hAe]; exact Or.inr h
  have hS : va_S A s.heap s.heap [] := va_S.rf
  have hP : va_P g vwCl [(ka, .inr (1, co_ fa sg cv cg mt mk tu th))] s.heap := hP
  have hl := lv_entry ([.ref ka, .int ct]) (n := 2) (Nat.le_of_ble_eq_true rfl)
  rw [lg_entry_eq]
  generalize (lg_sl ([.ref ka, .int ct]) ++ List.replicate (2 - (lg_sl ([.ref ka, .int ct])).length) Slot.unset).toArray = ls at hl ⊢
  have hl : lv_has ls 2 [(0, .ref ka), (1, .int ct)] := hl
  have hH0 : s.heap = s.heap := rfl
  have hiX1 := ikX1_arrive_X1
  refine lv_aload_n hx hb dX1_arrive_0 rfl (lv_at hl 0 rfl) ?_
  refine jnV (α := Int32) (ls := ls) (pc2 := 19) (fun v => v = arm_ mt ct 1) (fun v => [.int v, .ref ka]) (fun J => ?_) (fun v hv => ?_)
  · refine lv_aload_n hx hb dX1_arrive_1 rfl (lv_at hl 0 rfl) ?_
    refine va_get (D := g) (ci := 1) (v := .int mt) (C := RX1) (T := TX1) (N := 8) hx hb hts hiX1 hown hK hP 0 rfl rfl 4 (by decide) (hts (.fieldLink RX1 16 "ShapeRelator$Course" "meets" "Z") (List.mem_of_getElem? (i := 1) rfl)) (fun _ h9 => h9) rfl dX1_arrive_2 ?_
    refine lv_if_ne (tgt := 14) hx hb dX1_arrive_5 (by decide) (fun c1 => ?_) (fun c1 => ?_)
    · refine lv_iconst (v := 1) hx hb dX1_arrive_14 (by decide) ?_
      refine lv_goto (tgt := 19) hx hb dX1_arrive_15 (by decide) ?_
      exact J _ (arm1_ c1)
    · refine lv_iload_n hx hb dX1_arrive_8 rfl (lv_at hl 1 rfl) ?_
      refine lv_iconst (v := 1) hx hb dX1_arrive_9 (by decide) ?_
      refine lv_iand hx hb dX1_arrive_10 ?_
      refine lv_if_eq (tgt := 18) hx hb dX1_arrive_11 (by decide) (fun c2 => ?_) (fun c2 => ?_)
      · refine lv_iconst (v := 0) hx hb dX1_arrive_18 (by decide) ?_
        exact J _ (arm2_ c1 c2)
      · refine lv_iconst (v := 1) hx hb dX1_arrive_14 (by decide) ?_
        refine lv_goto (tgt := 19) hx hb dX1_arrive_15 (by decide) ?_
        exact J _ (arm3_ c2)
  · subst hv
    refine va_put (D := g) (ci := 1) (v := .int (arm_ mt ct 1)) (ty := .boolean) (C := RX1) (T := TX1) (N := 8) hx hb hts hiX1 tyX1 tyX1_ok nmX1 hown hK hP hD hS 0 rfl rfl 4 (by decide) (hts (.fieldLink RX1 16 "ShapeRelator$Course" "meets" "Z") (List.mem_of_getElem? (i := 1) rfl)) (fun _ h9 => h9) rfl (by decide +kernel) arm_n arm_f (Nat.le_of_ble_eq_true rfl) dX1_arrive_19 (fun H locs hP hD hS => ?_)
    have hP : va_P g vwCl [(ka, .inr (1, co_ fa sg cv cg (arm_ mt ct 1) mk tu th))] H := hP
    have hD : va_D A [(ka, .inr (1, co_ fa sg cv cg (arm_ mt ct 1) mk tu th))] := hD
    refine lv_aload_n hx hb dX1_arrive_22 rfl (lv_at hl 0 rfl) ?_
    refine jnV (α := Int32) (ls := ls) (pc2 := 41) (fun v => v = arm_ mk ct 2) (fun v => [.int v, .ref ka]) (fun J => ?_) (fun v hv => ?_)
    · refine lv_aload_n hx hb dX1_arrive_23 rfl (lv_at hl 0 rfl) ?_
      refine va_get (D := g) (ci := 1) (v := .int mk) (C := RX1) (T := TX1) (N := 8) hx hb hts hiX1 hown hK hP 0 rfl rfl 5 (by decide) (hts (.fieldLink RX1 20 "ShapeRelator$Course" "marked" "Z") (List.mem_of_getElem? (i := 2) rfl)) (fun _ h9 => h9) rfl dX1_arrive_24 ?_
      refine lv_if_ne (tgt := 36) hx hb dX1_arrive_27 (by decide) (fun c1 => ?_) (fun c1 => ?_)
      · refine lv_iconst (v := 1) hx hb dX1_arrive_36 (by decide) ?_
        refine lv_goto (tgt := 41) hx hb dX1_arrive_37 (by decide) ?_
        exact J _ (arm1_ c1)
      · refine lv_iload_n hx hb dX1_arrive_30 rfl (lv_at hl 1 rfl) ?_
        refine lv_iconst (v := 2) hx hb dX1_arrive_31 (by decide) ?_
        refine lv_iand hx hb dX1_arrive_32 ?_
        refine lv_if_eq (tgt := 40) hx hb dX1_arrive_33 (by decide) (fun c2 => ?_) (fun c2 => ?_)
        · refine lv_iconst (v := 0) hx hb dX1_arrive_40 (by decide) ?_
          exact J _ (arm2_ c1 c2)
        · refine lv_iconst (v := 1) hx hb dX1_arrive_36 (by decide) ?_
          refine lv_goto (tgt := 41) hx hb dX1_arrive_37 (by decide) ?_
          exact J _ (arm3_ c2)
    · subst hv
      refine va_put (D := g) (ci := 1) (v := .int (arm_ mk ct 2)) (ty := .boolean) (C := RX1) (T := TX1) (N := 8) hx hb hts hiX1 tyX1 tyX1_ok nmX1 hown hK hP hD hS 0 rfl rfl 5 (by decide) (hts (.fieldLink RX1 20 "ShapeRelator$Course" "marked" "Z") (List.mem_of_getElem? (i := 2) rfl)) (fun _ h9 => h9) rfl (by decide +kernel) arm_n arm_f (Nat.le_of_ble_eq_true rfl) dX1_arrive_41 (fun H locs hP hD hS => ?_)
      have hP : va_P g vwCl [(ka, .inr (1, co_ fa sg cv cg (arm_ mt ct 1) (arm_ mk ct 2) tu th))] H := hP
      have hD : va_D A [(ka, .inr (1, co_ fa sg cv cg (arm_ mt ct 1) (arm_ mk ct 2) tu th))] := hD
      refine lv_iload_n hx hb dX1_arrive_44 rfl (lv_at hl 1 rfl) ?_
      refine lv_iconst (v := 4) hx hb dX1_arrive_45 (by decide) ?_
      refine lv_iand hx hb dX1_arrive_46 ?_
      refine lv_if_eq (tgt := 60) hx hb dX1_arrive_47 (by decide) (fun c1 => ?_) (fun c1 => ?_)
      · refine lv_iload_n hx hb dX1_arrive_60 rfl (lv_at hl 1 rfl) ?_
        refine lv_bipush (v := 8) hx hb dX1_arrive_61 (by decide) ?_
        refine lv_iand hx hb dX1_arrive_63 ?_
        refine lv_if_eq (tgt := 77) hx hb dX1_arrive_64 (by decide) (fun c2 => ?_) (fun c2 => ?_)
        · refine lv_aload_n hx hb dX1_arrive_77 rfl (lv_at hl 0 rfl) ?_
          refine lv_dup hx hb dX1_arrive_78 rfl ?_
          refine va_get (D := g) (ci := 1) (v := .int th) (C := RX1) (T := TX1) (N := 8) hx hb hts hiX1 hown hK hP 0 rfl rfl 7 (by decide) (hts (.fieldLink RX1 26 "ShapeRelator$Course" "turnsHere" "I") (List.mem_of_getElem? (i := 4) rfl)) (fun _ h9 => h9) rfl dX1_arrive_79 ?_
          refine lv_iload_n hx hb dX1_arrive_82 rfl (lv_at hl 1 rfl) ?_
          refine lv_bipush (v := 48) hx hb dX1_arrive_83 (by decide) ?_
          refine lv_iand hx hb dX1_arrive_85 ?_
          refine lv_ixor hx hb dX1_arrive_86 ?_
          refine va_put (D := g) (ci := 1) (v := .int (th ^^^ (ct &&& 48))) (ty := .int) (C := RX1) (T := TX1) (N := 8) hx hb hts hiX1 tyX1 tyX1_ok nmX1 hown hK hP hD hS 0 rfl rfl 7 (by decide) (hts (.fieldLink RX1 26 "ShapeRelator$Course" "turnsHere" "I") (List.mem_of_getElem? (i := 4) rfl)) (fun _ h9 => h9) rfl (by decide +kernel) rfl rfl (Nat.le_of_ble_eq_true rfl) dX1_arrive_87 (fun H locs hP hD hS => ?_)
          have hP : va_P g vwCl [(ka, .inr (1, co_ fa sg cv cg (arm_ mt ct 1) (arm_ mk ct 2) tu (th ^^^ (ct &&& 48))))] H := hP
          have hD : va_D A [(ka, .inr (1, co_ fa sg cv cg (arm_ mt ct 1) (arm_ mk ct 2) tu (th ^^^ (ct &&& 48))))] := hD
          have hP9 := hP.sub (ws' := [(ka, .inr (1, co_ fa sg cv cg (arm_ mt ct 1) (arm_ mk ct 2) tu (th ^^^ (ct &&& 48))))]) [0] rfl
          have hD9 := hD.sub (ws' := [(ka, .inr (1, co_ fa sg cv cg (arm_ mt ct 1) (arm_ mk ct 2) tu (th ^^^ (ct &&& 48))))]) [0] (by decide) rfl
          exact W.vret hx hb hr (fun t ht hW => ⟨⟨cg, rfl, by unfold arc_; simp only [if_pos c1, if_pos c2]; try rfl, by rw [ht]; exact hP9, va_K.moved hW.alike hK, hD9⟩, hS.F ht⟩) hS.2.2 dX1_arrive_90
        · refine lv_aload_n hx hb dX1_arrive_67 rfl (lv_at hl 0 rfl) ?_
          refine lv_dup hx hb dX1_arrive_68 rfl ?_
          refine va_get (D := g) (ci := 1) (v := .int cg) (C := RX1) (T := TX1) (N := 8) hx hb hts hiX1 hown hK hP 0 rfl rfl 3 (by decide) (hts (.fieldLink RX1 13 "ShapeRelator$Course" "coversGained" "I") (List.mem_of_getElem? (i := 3) rfl)) (fun _ h9 => h9) rfl dX1_arrive_69 ?_
          refine lv_iconst (v := 1) hx hb dX1_arrive_72 (by decide) ?_
          refine lv_isub hx hb dX1_arrive_73 ?_
          refine va_put (D := g) (ci := 1) (v := .int (cg - 1)) (ty := .int) (C := RX1) (T := TX1) (N := 8) hx hb hts hiX1 tyX1 tyX1_ok nmX1 hown hK hP hD hS 0 rfl rfl 3 (by decide) (hts (.fieldLink RX1 13 "ShapeRelator$Course" "coversGained" "I") (List.mem_of_getElem? (i := 3) rfl)) (fun _ h9 => h9) rfl (by decide +kernel) rfl rfl (Nat.le_of_ble_eq_true rfl) dX1_arrive_74 (fun H locs hP hD hS => ?_)
          have hP : va_P g vwCl [(ka, .inr (1, co_ fa sg cv (cg - 1) (arm_ mt ct 1) (arm_ mk ct 2) tu th))] H := hP
          have hD : va_D A [(ka, .inr (1, co_ fa sg cv (cg - 1) (arm_ mt ct 1) (arm_ mk ct 2) tu th))] := hD
          refine lv_aload_n hx hb dX1_arrive_77 rfl (lv_at hl 0 rfl) ?_
          refine lv_dup hx hb dX1_arrive_78 rfl ?_
          refine va_get (D := g) (ci := 1) (v := .int th) (C := RX1) (T := TX1) (N := 8) hx hb hts hiX1 hown hK hP 0 rfl rfl 7 (by decide) (hts (.fieldLink RX1 26 "ShapeRelator$Course" "turnsHere" "I") (List.mem_of_getElem? (i := 4) rfl)) (fun _ h9 => h9) rfl dX1_arrive_79 ?_
          refine lv_iload_n hx hb dX1_arrive_82 rfl (lv_at hl 1 rfl) ?_
          refine lv_bipush (v := 48) hx hb dX1_arrive_83 (by decide) ?_
          refine lv_iand hx hb dX1_arrive_85 ?_
          refine lv_ixor hx hb dX1_arrive_86 ?_
          refine va_put (D := g) (ci := 1) (v := .int (th ^^^ (ct &&& 48))) (ty := .int) (C := RX1) (T := TX1) (N := 8) hx hb hts hiX1 tyX1 tyX1_ok nmX1 hown hK hP hD hS 0 rfl rfl 7 (by decide) (hts (.fieldLink RX1 26 "ShapeRelator$Course" "turnsHere" "I") (List.mem_of_getElem? (i := 4) rfl)) (fun _ h9 => h9) rfl (by decide +kernel) rfl rfl (Nat.le_of_ble_eq_true rfl) dX1_arrive_87 (fun H locs hP hD hS => ?_)
          have hP : va_P g vwCl [(ka, .inr (1, co_ fa sg cv (cg - 1) (arm_ mt ct 1) (arm_ mk ct 2) tu (th ^^^ (ct &&& 48))))] H := hP
          have hD : va_D A [(ka, .inr (1, co_ fa sg cv (cg - 1) (arm_ mt ct 1) (arm_ mk ct 2) tu (th ^^^ (ct &&& 48))))] := hD
          have hP9 := hP.sub (ws' := [(ka, .inr (1, co_ fa sg cv (cg - 1) (arm_ mt ct 1) (arm_ mk ct 2) tu (th ^^^ (ct &&& 48))))]) [0] rfl
          have hD9 := hD.sub (ws' := [(ka, .inr (1, co_ fa sg cv (cg - 1) (arm_ mt ct 1) (arm_ mk ct 2) tu (th ^^^ (ct &&& 48))))]) [0] (by decide) rfl
          exact W.vret hx hb hr (fun t ht hW => ⟨⟨cg - 1, rfl, by unfold arc_; simp only [if_pos c1, if_neg c2]; try rfl, by rw [ht]; exact hP9, va_K.moved hW.alike hK, hD9⟩, hS.F ht⟩) hS.2.2 dX1_arrive_90
      · refine lv_aload_n hx hb dX1_arrive_50 rfl (lv_at hl 0 rfl) ?_
        refine lv_dup hx hb dX1_arrive_51 rfl ?_
        refine va_get (D := g) (ci := 1) (v := .int cg) (C := RX1) (T := TX1) (N := 8) hx hb hts hiX1 hown hK hP 0 rfl rfl 3 (by decide) (hts (.fieldLink RX1 13 "ShapeRelator$Course" "coversGained" "I") (List.mem_of_getElem? (i := 3) rfl)) (fun _ h9 => h9) rfl dX1_arrive_52 ?_
        refine lv_iconst (v := 1) hx hb dX1_arrive_55 (by decide) ?_
        refine lv_iadd hx hb dX1_arrive_56 ?_
        refine va_put (D := g) (ci := 1) (v := .int (cg + 1)) (ty := .int) (C := RX1) (T := TX1) (N := 8) hx hb hts hiX1 tyX1 tyX1_ok nmX1 hown hK hP hD hS 0 rfl rfl 3 (by decide) (hts (.fieldLink RX1 13 "ShapeRelator$Course" "coversGained" "I") (List.mem_of_getElem? (i := 3) rfl)) (fun _ h9 => h9) rfl (by decide +kernel) rfl rfl (Nat.le_of_ble_eq_true rfl) dX1_arrive_57 (fun H locs hP hD hS => ?_)
        have hP : va_P g vwCl [(ka, .inr (1, co_ fa sg cv (cg + 1) (arm_ mt ct 1) (arm_ mk ct 2) tu th))] H := hP
        have hD : va_D A [(ka, .inr (1, co_ fa sg cv (cg + 1) (arm_ mt ct 1) (arm_ mk ct 2) tu th))] := hD
        refine lv_iload_n hx hb dX1_arrive_60 rfl (lv_at hl 1 rfl) ?_
        refine lv_bipush (v := 8) hx hb dX1_arrive_61 (by decide) ?_
        refine lv_iand hx hb dX1_arrive_63 ?_
        refine lv_if_eq (tgt := 77) hx hb dX1_arrive_64 (by decide) (fun c2 => ?_) (fun c2 => ?_)
        · refine lv_aload_n hx hb dX1_arrive_77 rfl (lv_at hl 0 rfl) ?_
          refine lv_dup hx hb dX1_arrive_78 rfl ?_
          refine va_get (D := g) (ci := 1) (v := .int th) (C := RX1) (T := TX1) (N := 8) hx hb hts hiX1 hown hK hP 0 rfl rfl 7 (by decide) (hts (.fieldLink RX1 26 "ShapeRelator$Course" "turnsHere" "I") (List.mem_of_getElem? (i := 4) rfl)) (fun _ h9 => h9) rfl dX1_arrive_79 ?_
          refine lv_iload_n hx hb dX1_arrive_82 rfl (lv_at hl 1 rfl) ?_
          refine lv_bipush (v := 48) hx hb dX1_arrive_83 (by decide) ?_
          refine lv_iand hx hb dX1_arrive_85 ?_
          refine lv_ixor hx hb dX1_arrive_86 ?_
          refine va_put (D := g) (ci := 1) (v := .int (th ^^^ (ct &&& 48))) (ty := .int) (C := RX1) (T := TX1) (N := 8) hx hb hts hiX1 tyX1 tyX1_ok nmX1 hown hK hP hD hS 0 rfl rfl 7 (by decide) (hts (.fieldLink RX1 26 "ShapeRelator$Course" "turnsHere" "I") (List.mem_of_getElem? (i := 4) rfl)) (fun _ h9 => h9) rfl (by decide +kernel) rfl rfl (Nat.le_of_ble_eq_true rfl) dX1_arrive_87 (fun H locs hP hD hS => ?_)
          have hP : va_P g vwCl [(ka, .inr (1, co_ fa sg cv (cg + 1) (arm_ mt ct 1) (arm_ mk ct 2) tu (th ^^^ (ct &&& 48))))] H := hP
          have hD : va_D A [(ka, .inr (1, co_ fa sg cv (cg + 1) (arm_ mt ct 1) (arm_ mk ct 2) tu (th ^^^ (ct &&& 48))))] := hD
          have hP9 := hP.sub (ws' := [(ka, .inr (1, co_ fa sg cv (cg + 1) (arm_ mt ct 1) (arm_ mk ct 2) tu (th ^^^ (ct &&& 48))))]) [0] rfl
          have hD9 := hD.sub (ws' := [(ka, .inr (1, co_ fa sg cv (cg + 1) (arm_ mt ct 1) (arm_ mk ct 2) tu (th ^^^ (ct &&& 48))))]) [0] (by decide) rfl
          exact W.vret hx hb hr (fun t ht hW => ⟨⟨cg + 1, rfl, by unfold arc_; simp only [if_neg c1, if_pos c2]; try rfl, by rw [ht]; exact hP9, va_K.moved hW.alike hK, hD9⟩, hS.F ht⟩) hS.2.2 dX1_arrive_90
        · refine lv_aload_n hx hb dX1_arrive_67 rfl (lv_at hl 0 rfl) ?_
          refine lv_dup hx hb dX1_arrive_68 rfl ?_
          refine va_get (D := g) (ci := 1) (v := .int (cg + 1)) (C := RX1) (T := TX1) (N := 8) hx hb hts hiX1 hown hK hP 0 rfl rfl 3 (by decide) (hts (.fieldLink RX1 13 "ShapeRelator$Course" "coversGained" "I") (List.mem_of_getElem? (i := 3) rfl)) (fun _ h9 => h9) rfl dX1_arrive_69 ?_
          refine lv_iconst (v := 1) hx hb dX1_arrive_72 (by decide) ?_
          refine lv_isub hx hb dX1_arrive_73 ?_
          refine va_put (D := g) (ci := 1) (v := .int ((cg + 1) - 1)) (ty := .int) (C := RX1) (T := TX1) (N := 8) hx hb hts hiX1 tyX1 tyX1_ok nmX1 hown hK hP hD hS 0 rfl rfl 3 (by decide) (hts (.fieldLink RX1 13 "ShapeRelator$Course" "coversGained" "I") (List.mem_of_getElem? (i := 3) rfl)) (fun _ h9 => h9) rfl (by decide +kernel) rfl rfl (Nat.le_of_ble_eq_true rfl) dX1_arrive_74 (fun H locs hP hD hS => ?_)
          have hP : va_P g vwCl [(ka, .inr (1, co_ fa sg cv ((cg + 1) - 1) (arm_ mt ct 1) (arm_ mk ct 2) tu th))] H := hP
          have hD : va_D A [(ka, .inr (1, co_ fa sg cv ((cg + 1) - 1) (arm_ mt ct 1) (arm_ mk ct 2) tu th))] := hD
          refine lv_aload_n hx hb dX1_arrive_77 rfl (lv_at hl 0 rfl) ?_
          refine lv_dup hx hb dX1_arrive_78 rfl ?_
          refine va_get (D := g) (ci := 1) (v := .int th) (C := RX1) (T := TX1) (N := 8) hx hb hts hiX1 hown hK hP 0 rfl rfl 7 (by decide) (hts (.fieldLink RX1 26 "ShapeRelator$Course" "turnsHere" "I") (List.mem_of_getElem? (i := 4) rfl)) (fun _ h9 => h9) rfl dX1_arrive_79 ?_
          refine lv_iload_n hx hb dX1_arrive_82 rfl (lv_at hl 1 rfl) ?_
          refine lv_bipush (v := 48) hx hb dX1_arrive_83 (by decide) ?_
          refine lv_iand hx hb dX1_arrive_85 ?_
          refine lv_ixor hx hb dX1_arrive_86 ?_
          refine va_put (D := g) (ci := 1) (v := .int (th ^^^ (ct &&& 48))) (ty := .int) (C := RX1) (T := TX1) (N := 8) hx hb hts hiX1 tyX1 tyX1_ok nmX1 hown hK hP hD hS 0 rfl rfl 7 (by decide) (hts (.fieldLink RX1 26 "ShapeRelator$Course" "turnsHere" "I") (List.mem_of_getElem? (i := 4) rfl)) (fun _ h9 => h9) rfl (by decide +kernel) rfl rfl (Nat.le_of_ble_eq_true rfl) dX1_arrive_87 (fun H locs hP hD hS => ?_)
          have hP : va_P g vwCl [(ka, .inr (1, co_ fa sg cv ((cg + 1) - 1) (arm_ mt ct 1) (arm_ mk ct 2) tu (th ^^^ (ct &&& 48))))] H := hP
          have hD : va_D A [(ka, .inr (1, co_ fa sg cv ((cg + 1) - 1) (arm_ mt ct 1) (arm_ mk ct 2) tu (th ^^^ (ct &&& 48))))] := hD
          have hP9 := hP.sub (ws' := [(ka, .inr (1, co_ fa sg cv (cg + 1 - 1) (arm_ mt ct 1) (arm_ mk ct 2) tu (th ^^^ (ct &&& 48))))]) [0] rfl
          have hD9 := hD.sub (ws' := [(ka, .inr (1, co_ fa sg cv (cg + 1 - 1) (arm_ mt ct 1) (arm_ mk ct 2) tu (th ^^^ (ct &&& 48))))]) [0] (by decide) rfl
          exact W.vret hx hb hr (fun t ht hW => ⟨⟨cg + 1 - 1, rfl, by unfold arc_; simp only [if_neg c1, if_neg c2]; try rfl, by rw [ht]; exact hP9, va_K.moved hW.alike hK, hD9⟩, hS.F ht⟩) hS.2.2 dX1_arrive_90

theorem ikX1_placeBeside_X1 : ∀ w ∈ wsX10, w ∈ wsX1_placeBeside := by decide +kernel
set_option maxHeartbeats 1000000 in
set_option maxRecDepth 100000 in
theorem kX1_placeBeside (l : Launch) (g : va_G) (cI cJ cZ : ClassId) (sz : Nat) (ka : Nat) (fa : Nat) (kd : Int32) (pn : Int32) (pt : Int32) (qx : Nat) (qy : Nat) (qs : Nat) (pr : Int32) (sc : Int32) (qt : Nat) (qh : Nat) (mn : Int32) (qm : Nat) (qd : Nat) (sg : Int32) (cv : Int32) (cg : Int32) (mt : Int32) (mk : Int32) (tu : Int32) (th : Int32) (t1 : Int32)  : Met l yX1_placeBeside wsX1_placeBeside ({ frames := 1, cells := 0, slots := 0, locals := 21 }) (pc_ g cI cJ cZ [.ref ka, .int t1] [(ka, .inr (1, co_ fa sg cv cg mt mk tu th)), (fa, .inr (3, fg_ kd pn pt qx qy qs pr sc qt qh mn qm qd))] sz) (va_Qi (fun (r : Int32) (_ : Unit) => r = pbs_ kd tu t1) (fun (_ : Unit) t => wd_ g cI cJ cZ (va_A [(ka, .inr (1, co_ fa sg cv cg mt mk tu th)), (fa, .inr (3, fg_ kd pn pt qx qy qs pr sc qt qh mn qm qd))] sz) [(ka, .inr (1, co_ fa sg cv cg mt mk tu th)), (fa, .inr (3, fg_ kd pn pt qx qy qs pr sc qt qh mn qm qd))] t) (va_A [(ka, .inr (1, co_ fa sg cv cg mt mk tu th)), (fa, .inr (3, fg_ kd pn pt qx qy qs pr sc qt qh mn qm qd))] sz)) (0) (0) (va_A [(ka, .inr (1, co_ fa sg cv cg mt mk tu th)), (fa, .inr (3, fg_ kd pn pt qx qy qs pr sc qt qh mn qm qd))] sz) := by
  refine Met.ofW (cc := cX1_placeBeside) (maxL := 2) (ret := (some .int)) (by decide) rfl ?_
  intro p e s m args below meth c s₁ B hml hv
  obtain ⟨rfl, hsz, hP, hK, hD0⟩ := hv
  have hx := B.exec
  have hb := B.bytes
  have hr := B.returns
  have hts := atoms_spec (ws := wsX1_placeBeside) B.pre
  have hown : s.vm.findClass RX1 = some m.cls := findClass_of_methodNamed B.named
  have hlocks := B.notSynchronized
  subst hsz
  have hD := hD0.self (sz := s.heap.size)
  generalize hAe : va_A [(ka, .inr (1, co_ fa sg cv cg mt mk tu th)), (fa, .inr (3, fg_ kd pn pt qx qy qs pr sc qt qh mn qm qd))] s.heap.size = A at hD ⊢
  have hA : ∀ q : Nat, s.heap.size ≤ q → A q := fun q h => by rw [← hAe]; exact Or.inr h
  have hS : va_S A s.heap s.heap [] := va_S.rf
  have hP : va_P g vwCl [(ka, .inr (1, co_ fa sg cv cg mt mk tu th)), (fa, .inr (3, fg_ kd pn pt qx qy qs pr sc qt qh mn qm qd))] s.heap := hP
  have hl := lv_entry ([.ref ka, .int t1]) (n := 2) (Nat.le_of_ble_eq_true rfl)
  rw [lg_entry_eq]
  generalize (lg_sl ([.ref ka, .int t1]) ++ List.replicate (2 - (lg_sl ([.ref ka, .int t1])).length) Slot.unset).toArray = ls at hl ⊢
  have hl : lv_has ls 2 [(0, .ref ka), (1, .int t1)] := hl
  have hH0 : s.heap = s.heap := rfl
  have hiX1 := ikX1_placeBeside_X1
  refine lv_aload_n hx hb dX1_placeBeside_0 rfl (lv_at hl 0 rfl) ?_
  refine va_get (D := g) (ci := 1) (v := .ref fa) (C := RX1) (T := TX1) (N := 8) hx hb hts hiX1 hown hK hP 0 rfl rfl 0 (by decide) (hts (.fieldLink RX1 29 "ShapeRelator$Course" "figure" "LShapeRelator$Figure;") (List.mem_of_getElem? (i := 1) rfl)) (fun _ h9 => h9) rfl dX1_placeBeside_1 ?_
  refine lv_aload_n hx hb dX1_placeBeside_4 rfl (lv_at hl 0 rfl) ?_
  refine va_get (D := g) (ci := 1) (v := .int tu) (C := RX1) (T := TX1) (N := 8) hx hb hts hiX1 hown hK hP 0 rfl rfl 6 (by decide) (hts (.fieldLink RX1 23 "ShapeRelator$Course" "turnsAhead" "I") (List.mem_of_getElem? (i := 2) rfl)) (fun _ h9 => h9) rfl dX1_placeBeside_5 ?_
  refine lv_iload_n hx hb dX1_placeBeside_8 rfl (lv_at hl 1 rfl) ?_
  refine lv_iand hx hb dX1_placeBeside_9 ?_
  refine lv_if_eq (tgt := 17) hx hb dX1_placeBeside_10 (by decide) (fun h1 => ?_) (fun h1 => ?_)
  · refine lv_iconst (v := 0) hx hb dX1_placeBeside_17 (by decide) ?_
    have hPc := hP.sub (ws' := [(fa, .inr (3, fg_ kd pn pt qx qy qs pr sc qt qh mn qm qd))]) [1] rfl
    have hDc := hD.sub (ws' := [(fa, .inr (3, fg_ kd pn pt qx qy qs pr sc qt qh mn qm qd))]) [1] (by decide) rfl
    have hFc := va_free (wc := [(fa, .inr (3, fg_ kd pn pt qx qy qs pr sc qt qh mn qm qd))]) hD hS hA [1] rfl
    refine va_calli (va_runV (As := [.int 0]) (rest := []) ⟨hx, hb, hml, hown, hts⟩ (kX3_placeOffSegments l g cI cJ cZ s.heap.size fa kd pn pt qx qy qs pr sc qt qh mn qm qd 0) (cwV 1 hts gX1_placeBeside_X3_placeOffSegments rfl rfl rfl (by decide +kernel) ⟨Nat.le_of_ble_eq_true rfl, Nat.le_of_ble_eq_true rfl⟩) (pv_ hK hPc hDc (va_recv hK hPc (ci := 3) (q0 := 0) rfl rfl)) rfl rfl hl.1 rfl (lv_room (Nat.le_of_ble_eq_true rfl)) dX1_placeBeside_18 ⟨Nat.zero_le _, Nat.zero_le _⟩) hS (fun q _ h => hFc q h) hFc (fun r_1 u t H1 locs ht hvm hw1 hB hz1 hk1 hS => ?_)
    obtain ⟨hP1, hK1, hD1⟩ := hB
    rw [ht] at hP1
    obtain ⟨hP, hD⟩ := va_join (wr := [(ka, .inr (1, co_ fa sg cv cg mt mk tu th))]) (w1 := [(fa, .inr (3, fg_ kd pn pt qx qy qs pr sc qt qh mn qm qd))]) hP hD [1] [0] rfl rfl (by decide) (by decide) hk1 hFc hP1 hD1
    clear hPc hDc hFc hP1 hD1 hK1 hk1 hz1 hvm ht
    generalize H1 = H at hP hS ⊢
    have hP : va_P g vwCl [(ka, .inr (1, co_ fa sg cv cg mt mk tu th)), (fa, .inr (3, fg_ kd pn pt qx qy qs pr sc qt qh mn qm qd))] H := hP
    have hD : va_D A [(ka, .inr (1, co_ fa sg cv cg mt mk tu th)), (fa, .inr (3, fg_ kd pn pt qx qy qs pr sc qt qh mn qm qd))] := hD
    have hP9 := hP.sub (ws' := [(ka, .inr (1, co_ fa sg cv cg mt mk tu th)), (fa, .inr (3, fg_ kd pn pt qx qy qs pr sc qt qh mn qm qd))]) [0, 1] rfl
    have hD9 := hD.sub (ws' := [(ka, .inr (1, co_ fa sg cv cg mt mk tu th)), (fa, .inr (3, fg_ kd pn pt qx qy qs pr sc qt qh mn qm qd))]) [0, 1] (by decide) rfl
    exact W.iret (v := r_1) hx hb hr (fun t ht hW => ⟨⟨r_1, (), rfl, by rw [hw1]; exact pbs1_ h1, by rw [ht]; exact hP9, va_K.moved hW.alike hK, hD9⟩, hS.F ht⟩) hS.2.2 dX1_placeBeside_21
  · refine lv_iconst (v := 1) hx hb dX1_placeBeside_13 (by decide) ?_
    refine lv_goto (tgt := 18) hx hb dX1_placeBeside_14 (by decide) ?_
    have hPc := hP.sub (ws' := [(fa, .inr (3, fg_ kd pn pt qx qy qs pr sc qt qh mn qm qd))]) [1] rfl
    have hDc := hD.sub (ws' := [(fa, .inr (3, fg_ kd pn pt qx qy qs pr sc qt qh mn qm qd))]) [1] (by decide) rfl
    have hFc := va_free (wc := [(fa, .inr (3, fg_ kd pn pt qx qy qs pr sc qt qh mn qm qd))]) hD hS hA [1] rfl
    refine va_calli (va_runV (As := [.int 1]) (rest := []) ⟨hx, hb, hml, hown, hts⟩ (kX3_placeOffSegments l g cI cJ cZ s.heap.size fa kd pn pt qx qy qs pr sc qt qh mn qm qd 1) (cwV 1 hts gX1_placeBeside_X3_placeOffSegments rfl rfl rfl (by decide +kernel) ⟨Nat.le_of_ble_eq_true rfl, Nat.le_of_ble_eq_true rfl⟩) (pv_ hK hPc hDc (va_recv hK hPc (ci := 3) (q0 := 0) rfl rfl)) rfl rfl hl.1 rfl (lv_room (Nat.le_of_ble_eq_true rfl)) dX1_placeBeside_18 ⟨Nat.zero_le _, Nat.zero_le _⟩) hS (fun q _ h => hFc q h) hFc (fun r_2 u t H1 locs ht hvm hw1 hB hz1 hk1 hS => ?_)
    obtain ⟨hP1, hK1, hD1⟩ := hB
    rw [ht] at hP1
    obtain ⟨hP, hD⟩ := va_join (wr := [(ka, .inr (1, co_ fa sg cv cg mt mk tu th))]) (w1 := [(fa, .inr (3, fg_ kd pn pt qx qy qs pr sc qt qh mn qm qd))]) hP hD [1] [0] rfl rfl (by decide) (by decide) hk1 hFc hP1 hD1
    clear hPc hDc hFc hP1 hD1 hK1 hk1 hz1 hvm ht
    generalize H1 = H at hP hS ⊢
    have hP : va_P g vwCl [(ka, .inr (1, co_ fa sg cv cg mt mk tu th)), (fa, .inr (3, fg_ kd pn pt qx qy qs pr sc qt qh mn qm qd))] H := hP
    have hD : va_D A [(ka, .inr (1, co_ fa sg cv cg mt mk tu th)), (fa, .inr (3, fg_ kd pn pt qx qy qs pr sc qt qh mn qm qd))] := hD
    have hP9 := hP.sub (ws' := [(ka, .inr (1, co_ fa sg cv cg mt mk tu th)), (fa, .inr (3, fg_ kd pn pt qx qy qs pr sc qt qh mn qm qd))]) [0, 1] rfl
    have hD9 := hD.sub (ws' := [(ka, .inr (1, co_ fa sg cv cg mt mk tu th)), (fa, .inr (3, fg_ kd pn pt qx qy qs pr sc qt qh mn qm qd))]) [0, 1] (by decide) rfl
    exact W.iret (v := r_2) hx hb hr (fun t ht hW => ⟨⟨r_2, (), rfl, by rw [hw1]; exact pbs2_ h1, by rw [ht]; exact hP9, va_K.moved hW.alike hK, hD9⟩, hS.F ht⟩) hS.2.2 dX1_placeBeside_21

theorem ikX1_placeAhead_X1 : ∀ w ∈ wsX10, w ∈ wsX1_placeAhead := by decide +kernel
set_option maxHeartbeats 1000000 in
set_option maxRecDepth 100000 in
theorem kX1_placeAhead (l : Launch) (g : va_G) (cI cJ cZ : ClassId) (sz : Nat) (ka : Nat) (fa : Nat) (kd : Int32) (pn : Int32) (pt : Int32) (qx : Nat) (qy : Nat) (qs : Nat) (pr : Int32) (sc : Int32) (qt : Nat) (qh : Nat) (mn : Int32) (qm : Nat) (qd : Nat) (sg : Int32) (cv : Int32) (cg : Int32) (mt : Int32) (mk : Int32) (tu : Int32) (th : Int32)  : Met l yX1_placeAhead wsX1_placeAhead ({ frames := 2, cells := 0, slots := 0, locals := 42 }) (pc_ g cI cJ cZ [.ref ka] [(ka, .inr (1, co_ fa sg cv cg mt mk tu th)), (fa, .inr (3, fg_ kd pn pt qx qy qs pr sc qt qh mn qm qd))] sz) (va_Qi (fun (r : Int32) (_ : Unit) => r = pah_ kd cv tu) (fun (_ : Unit) t => wd_ g cI cJ cZ (va_A [(ka, .inr (1, co_ fa sg cv cg mt mk tu th)), (fa, .inr (3, fg_ kd pn pt qx qy qs pr sc qt qh mn qm qd))] sz) [(ka, .inr (1, co_ fa sg cv cg mt mk tu th)), (fa, .inr (3, fg_ kd pn pt qx qy qs pr sc qt qh mn qm qd))] t) (va_A [(ka, .inr (1, co_ fa sg cv cg mt mk tu th)), (fa, .inr (3, fg_ kd pn pt qx qy qs pr sc qt qh mn qm qd))] sz)) (0) (0) (va_A [(ka, .inr (1, co_ fa sg cv cg mt mk tu th)), (fa, .inr (3, fg_ kd pn pt qx qy qs pr sc qt qh mn qm qd))] sz) := by
  refine Met.ofW (cc := cX1_placeAhead) (maxL := 1) (ret := (some .int)) (by decide) rfl ?_
  intro p e s m args below meth c s₁ B hml hv
  obtain ⟨rfl, hsz, hP, hK, hD0⟩ := hv
  have hx := B.exec
  have hb := B.bytes
  have hr := B.returns
  have hts := atoms_spec (ws := wsX1_placeAhead) B.pre
  have hown : s.vm.findClass RX1 = some m.cls := findClass_of_methodNamed B.named
  have hlocks := B.notSynchronized
  subst hsz
  have hD := hD0.self (sz := s.heap.size)
  generalize hAe : va_A [(ka, .inr (1, co_ fa sg cv cg mt mk tu th)), (fa, .inr (3, fg_ kd pn pt qx qy qs pr sc qt qh mn qm qd))] s.heap.size = A at hD ⊢
  have hA : ∀ q : Nat, s.heap.size ≤ q → A q := fun q h => by rw [← hAe]; exact Or.inr h
  have hS : va_S A s.heap s.heap [] := va_S.rf
  have hP : va_P g vwCl [(ka, .inr (1, co_ fa sg cv cg mt mk tu th)), (fa, .inr (3, fg_ kd pn pt qx qy qs pr sc qt qh mn qm qd))] s.heap := hP
  have hl := lv_entry ([.ref ka]) (n := 1) (Nat.le_of_ble_eq_true rfl)
  rw [lg_entry_eq]
  generalize (lg_sl ([.ref ka]) ++ List.replicate (1 - (lg_sl ([.ref ka])).length) Slot.unset).toArray = ls at hl ⊢
  have hl : lv_has ls 1 [(0, .ref ka)] := hl
  have hH0 : s.heap = s.heap := rfl
  have hiX1 := ikX1_placeAhead_X1
  refine lv_aload_n hx hb dX1_placeAhead_0 rfl (lv_at hl 0 rfl) ?_
  refine va_get (D := g) (ci := 1) (v := .int cv) (C := RX1) (T := TX1) (N := 8) hx hb hts hiX1 hown hK hP 0 rfl rfl 2 (by decide) (hts (.fieldLink RX1 7 "ShapeRelator$Course" "covers" "I") (List.mem_of_getElem? (i := 1) rfl)) (fun _ h9 => h9) rfl dX1_placeAhead_1 ?_
  refine lv_if_le (tgt := 17) hx hb dX1_placeAhead_4 (by decide) (fun h1 => ?_) (fun h1 => ?_)
  · refine lv_aload_n hx hb dX1_placeAhead_17 rfl (lv_at hl 0 rfl) ?_
    refine lv_bipush (v := 16) hx hb dX1_placeAhead_18 (by decide) ?_
    have hPc := hP.sub (ws' := [(ka, .inr (1, co_ fa sg cv cg mt mk tu th)), (fa, .inr (3, fg_ kd pn pt qx qy qs pr sc qt qh mn qm qd))]) [0, 1] rfl
    have hDc := hD.sub (ws' := [(ka, .inr (1, co_ fa sg cv cg mt mk tu th)), (fa, .inr (3, fg_ kd pn pt qx qy qs pr sc qt qh mn qm qd))]) [0, 1] (by decide) rfl
    have hFc := va_free (wc := [(ka, .inr (1, co_ fa sg cv cg mt mk tu th)), (fa, .inr (3, fg_ kd pn pt qx qy qs pr sc qt qh mn qm qd))]) hD hS hA [0, 1] rfl
    refine va_calli (va_runV (As := [.int 16]) (rest := []) ⟨hx, hb, hml, hown, hts⟩ (kX1_placeBeside l g cI cJ cZ s.heap.size ka fa kd pn pt qx qy qs pr sc qt qh mn qm qd sg cv cg mt mk tu th 16) (cwV 1 hts gX1_placeAhead_X1_placeBeside rfl rfl rfl (by decide +kernel) ⟨Nat.le_of_ble_eq_true rfl, Nat.le_of_ble_eq_true rfl⟩) (pv_ hK hPc hDc (va_recv hK hPc (ci := 1) (q0 := 0) rfl rfl)) rfl rfl hl.1 rfl (lv_room (Nat.le_of_ble_eq_true rfl)) dX1_placeAhead_20 ⟨Nat.zero_le _, Nat.zero_le _⟩) hS (fun q _ h => hFc q h) hFc (fun r_1 u t H1 locs ht hvm hw1 hB hz1 hk1 hS => ?_)
    obtain ⟨hP1, hK1, hD1⟩ := hB
    rw [ht] at hP1
    obtain ⟨hP, hD⟩ := va_join (wr := []) (w1 := [(ka, .inr (1, co_ fa sg cv cg mt mk tu th)), (fa, .inr (3, fg_ kd pn pt qx qy qs pr sc qt qh mn qm qd))]) hP hD [0, 1] [] rfl rfl (by decide) (by decide) hk1 hFc hP1 hD1
    clear hPc hDc hFc hP1 hD1 hK1 hk1 hz1 hvm ht
    generalize H1 = H at hP hS ⊢
    have hP : va_P g vwCl [(ka, .inr (1, co_ fa sg cv cg mt mk tu th)), (fa, .inr (3, fg_ kd pn pt qx qy qs pr sc qt qh mn qm qd))] H := hP
    have hD : va_D A [(ka, .inr (1, co_ fa sg cv cg mt mk tu th)), (fa, .inr (3, fg_ kd pn pt qx qy qs pr sc qt qh mn qm qd))] := hD
    have hP9 := hP.sub (ws' := [(ka, .inr (1, co_ fa sg cv cg mt mk tu th)), (fa, .inr (3, fg_ kd pn pt qx qy qs pr sc qt qh mn qm qd))]) [0, 1] rfl
    have hD9 := hD.sub (ws' := [(ka, .inr (1, co_ fa sg cv cg mt mk tu th)), (fa, .inr (3, fg_ kd pn pt qx qy qs pr sc qt qh mn qm qd))]) [0, 1] (by decide) rfl
    exact W.iret (v := r_1) hx hb hr (fun t ht hW => ⟨⟨r_1, (), rfl, by rw [hw1]; unfold pah_; rw [if_neg (Int32.not_lt.mpr h1)], by rw [ht]; exact hP9, va_K.moved hW.alike hK, hD9⟩, hS.F ht⟩) hS.2.2 dX1_placeAhead_23
  · refine lv_aload_n hx hb dX1_placeAhead_7 rfl (lv_at hl 0 rfl) ?_
    refine va_get (D := g) (ci := 1) (v := .ref fa) (C := RX1) (T := TX1) (N := 8) hx hb hts hiX1 hown hK hP 0 rfl rfl 0 (by decide) (hts (.fieldLink RX1 29 "ShapeRelator$Course" "figure" "LShapeRelator$Figure;") (List.mem_of_getElem? (i := 2) rfl)) (fun _ h9 => h9) rfl dX1_placeAhead_8 ?_
    have hPc := hP.sub (ws' := [(fa, .inr (3, fg_ kd pn pt qx qy qs pr sc qt qh mn qm qd))]) [1] rfl
    have hDc := hD.sub (ws' := [(fa, .inr (3, fg_ kd pn pt qx qy qs pr sc qt qh mn qm qd))]) [1] (by decide) rfl
    have hFc := va_free (wc := [(fa, .inr (3, fg_ kd pn pt qx qy qs pr sc qt qh mn qm qd))]) hD hS hA [1] rfl
    refine va_calli (va_runV (As := []) (rest := []) ⟨hx, hb, hml, hown, hts⟩ (kX3_placeOnSegment l g cI cJ cZ s.heap.size fa kd pn pt qx qy qs pr sc qt qh mn qm qd) (cwV 0 hts gX1_placeAhead_X3_placeOnSegment rfl rfl rfl (by decide +kernel) ⟨Nat.le_of_ble_eq_true rfl, Nat.le_of_ble_eq_true rfl⟩) (pv_ hK hPc hDc (va_recv hK hPc (ci := 3) (q0 := 0) rfl rfl)) rfl rfl hl.1 rfl (lv_room (Nat.le_of_ble_eq_true rfl)) dX1_placeAhead_11 ⟨Nat.zero_le _, Nat.zero_le _⟩) hS (fun q _ h => hFc q h) hFc (fun r_2 u t H1 locs ht hvm hw1 hB hz1 hk1 hS => ?_)
    obtain ⟨hP1, hK1, hD1⟩ := hB
    rw [ht] at hP1
    obtain ⟨hP, hD⟩ := va_join (wr := [(ka, .inr (1, co_ fa sg cv cg mt mk tu th))]) (w1 := [(fa, .inr (3, fg_ kd pn pt qx qy qs pr sc qt qh mn qm qd))]) hP hD [1] [0] rfl rfl (by decide) (by decide) hk1 hFc hP1 hD1
    clear hPc hDc hFc hP1 hD1 hK1 hk1 hz1 hvm ht
    generalize H1 = H at hP hS ⊢
    have hP : va_P g vwCl [(ka, .inr (1, co_ fa sg cv cg mt mk tu th)), (fa, .inr (3, fg_ kd pn pt qx qy qs pr sc qt qh mn qm qd))] H := hP
    have hD : va_D A [(ka, .inr (1, co_ fa sg cv cg mt mk tu th)), (fa, .inr (3, fg_ kd pn pt qx qy qs pr sc qt qh mn qm qd))] := hD
    refine lv_goto (tgt := 23) hx hb dX1_placeAhead_14 (by decide) ?_
    have hP9 := hP.sub (ws' := [(ka, .inr (1, co_ fa sg cv cg mt mk tu th)), (fa, .inr (3, fg_ kd pn pt qx qy qs pr sc qt qh mn qm qd))]) [0, 1] rfl
    have hD9 := hD.sub (ws' := [(ka, .inr (1, co_ fa sg cv cg mt mk tu th)), (fa, .inr (3, fg_ kd pn pt qx qy qs pr sc qt qh mn qm qd))]) [0, 1] (by decide) rfl
    exact W.iret (v := r_2) hx hb hr (fun t ht hW => ⟨⟨r_2, (), rfl, by rw [hw1]; unfold pah_; rw [if_pos (Int32.not_le.mp h1)], by rw [ht]; exact hP9, va_K.moved hW.alike hK, hD9⟩, hS.F ht⟩) hS.2.2 dX1_placeAhead_23

theorem ikX1_placeHere_X1 : ∀ w ∈ wsX10, w ∈ wsX1_placeHere := by decide +kernel
set_option maxHeartbeats 1000000 in
set_option maxRecDepth 100000 in
theorem kX1_placeHere (l : Launch) (g : va_G) (cI cJ cZ : ClassId) (sz : Nat) (ka : Nat) (fa : Nat) (kd : Int32) (pn : Int32) (pt : Int32) (qx : Nat) (qy : Nat) (qs : Nat) (pr : Int32) (sc : Int32) (qt : Nat) (qh : Nat) (mn : Int32) (qm : Nat) (qd : Nat) (sg : Int32) (cv : Int32) (cg : Int32) (mt : Int32) (mk : Int32) (tu : Int32) (th : Int32)  : Met l yX1_placeHere wsX1_placeHere ({ frames := 3, cells := 0, slots := 0, locals := 62 }) (pc_ g cI cJ cZ [.ref ka] [(ka, .inr (1, co_ fa sg cv cg mt mk tu th)), (fa, .inr (3, fg_ kd pn pt qx qy qs pr sc qt qh mn qm qd))] sz) (va_Qi (fun (r : Int32) (_ : Unit) => r = phe_ kd cv mt mk tu) (fun (_ : Unit) t => wd_ g cI cJ cZ (va_A [(ka, .inr (1, co_ fa sg cv cg mt mk tu th)), (fa, .inr (3, fg_ kd pn pt qx qy qs pr sc qt qh mn qm qd))] sz) [(ka, .inr (1, co_ fa sg cv cg mt mk tu th)), (fa, .inr (3, fg_ kd pn pt qx qy qs pr sc qt qh mn qm qd))] t) (va_A [(ka, .inr (1, co_ fa sg cv cg mt mk tu th)), (fa, .inr (3, fg_ kd pn pt qx qy qs pr sc qt qh mn qm qd))] sz)) (0) (0) (va_A [(ka, .inr (1, co_ fa sg cv cg mt mk tu th)), (fa, .inr (3, fg_ kd pn pt qx qy qs pr sc qt qh mn qm qd))] sz) := by
  refine Met.ofW (cc := cX1_placeHere) (maxL := 1) (ret := (some .int)) (by decide) rfl ?_
  intro p e s m args below meth c s₁ B hml hv
  obtain ⟨rfl, hsz, hP, hK, hD0⟩ := hv
  have hx := B.exec
  have hb := B.bytes
  have hr := B.returns
  have hts := atoms_spec (ws := wsX1_placeHere) B.pre
  have hown : s.vm.findClass RX1 = some m.cls := findClass_of_methodNamed B.named
  have hlocks := B.notSynchronized
  subst hsz
  have hD := hD0.self (sz := s.heap.size)
  generalize hAe : va_A [(ka, .inr (1, co_ fa sg cv cg mt mk tu th)), (fa, .inr (3, fg_ kd pn pt qx qy qs pr sc qt qh mn qm qd))] s.heap.size = A at hD ⊢
  have hA : ∀ q : Nat, s.heap.size ≤ q → A q := fun q h => by rw [← hAe]; exact Or.inr h
  have hS : va_S A s.heap s.heap [] := va_S.rf
  have hP : va_P g vwCl [(ka, .inr (1, co_ fa sg cv cg mt mk tu th)), (fa, .inr (3, fg_ kd pn pt qx qy qs pr sc qt qh mn qm qd))] s.heap := hP
  have hl := lv_entry ([.ref ka]) (n := 1) (Nat.le_of_ble_eq_true rfl)
  rw [lg_entry_eq]
  generalize (lg_sl ([.ref ka]) ++ List.replicate (1 - (lg_sl ([.ref ka])).length) Slot.unset).toArray = ls at hl ⊢
  have hl : lv_has ls 1 [(0, .ref ka)] := hl
  have hH0 : s.heap = s.heap := rfl
  have hiX1 := ikX1_placeHere_X1
  refine lv_aload_n hx hb dX1_placeHere_0 rfl (lv_at hl 0 rfl) ?_
  refine va_get (D := g) (ci := 1) (v := .int mk) (C := RX1) (T := TX1) (N := 8) hx hb hts hiX1 hown hK hP 0 rfl rfl 5 (by decide) (hts (.fieldLink RX1 20 "ShapeRelator$Course" "marked" "Z") (List.mem_of_getElem? (i := 1) rfl)) (fun _ h9 => h9) rfl dX1_placeHere_1 ?_
  refine lv_if_eq (tgt := 15) hx hb dX1_placeHere_4 (by decide) (fun h1 => ?_) (fun h1 => ?_)
  · refine lv_aload_n hx hb dX1_placeHere_15 rfl (lv_at hl 0 rfl) ?_
    refine va_get (D := g) (ci := 1) (v := .int mt) (C := RX1) (T := TX1) (N := 8) hx hb hts hiX1 hown hK hP 0 rfl rfl 4 (by decide) (hts (.fieldLink RX1 16 "ShapeRelator$Course" "meets" "Z") (List.mem_of_getElem? (i := 3) rfl)) (fun _ h9 => h9) rfl dX1_placeHere_16 ?_
    refine lv_if_eq (tgt := 32) hx hb dX1_placeHere_19 (by decide) (fun h2 => ?_) (fun h2 => ?_)
    · refine lv_aload_n hx hb dX1_placeHere_32 rfl (lv_at hl 0 rfl) ?_
      have hPc := hP.sub (ws' := [(ka, .inr (1, co_ fa sg cv cg mt mk tu th)), (fa, .inr (3, fg_ kd pn pt qx qy qs pr sc qt qh mn qm qd))]) [0, 1] rfl
      have hDc := hD.sub (ws' := [(ka, .inr (1, co_ fa sg cv cg mt mk tu th)), (fa, .inr (3, fg_ kd pn pt qx qy qs pr sc qt qh mn qm qd))]) [0, 1] (by decide) rfl
      have hFc := va_free (wc := [(ka, .inr (1, co_ fa sg cv cg mt mk tu th)), (fa, .inr (3, fg_ kd pn pt qx qy qs pr sc qt qh mn qm qd))]) hD hS hA [0, 1] rfl
      refine va_calli (va_runV (As := []) (rest := []) ⟨hx, hb, hml, hown, hts⟩ (kX1_placeAhead l g cI cJ cZ s.heap.size ka fa kd pn pt qx qy qs pr sc qt qh mn qm qd sg cv cg mt mk tu th) (cwV 0 hts gX1_placeHere_X1_placeAhead rfl rfl rfl (by decide +kernel) ⟨Nat.le_of_ble_eq_true rfl, Nat.le_of_ble_eq_true rfl⟩) (pv_ hK hPc hDc (va_recv hK hPc (ci := 1) (q0 := 0) rfl rfl)) rfl rfl hl.1 rfl (lv_room (Nat.le_of_ble_eq_true rfl)) dX1_placeHere_33 ⟨Nat.zero_le _, Nat.zero_le _⟩) hS (fun q _ h => hFc q h) hFc (fun r_1 u t H1 locs ht hvm hw1 hB hz1 hk1 hS => ?_)
      obtain ⟨hP1, hK1, hD1⟩ := hB
      rw [ht] at hP1
      obtain ⟨hP, hD⟩ := va_join (wr := []) (w1 := [(ka, .inr (1, co_ fa sg cv cg mt mk tu th)), (fa, .inr (3, fg_ kd pn pt qx qy qs pr sc qt qh mn qm qd))]) hP hD [0, 1] [] rfl rfl (by decide) (by decide) hk1 hFc hP1 hD1
      clear hPc hDc hFc hP1 hD1 hK1 hk1 hz1 hvm ht
      generalize H1 = H at hP hS ⊢
      have hP : va_P g vwCl [(ka, .inr (1, co_ fa sg cv cg mt mk tu th)), (fa, .inr (3, fg_ kd pn pt qx qy qs pr sc qt qh mn qm qd))] H := hP
      have hD : va_D A [(ka, .inr (1, co_ fa sg cv cg mt mk tu th)), (fa, .inr (3, fg_ kd pn pt qx qy qs pr sc qt qh mn qm qd))] := hD
      have hP9 := hP.sub (ws' := [(ka, .inr (1, co_ fa sg cv cg mt mk tu th)), (fa, .inr (3, fg_ kd pn pt qx qy qs pr sc qt qh mn qm qd))]) [0, 1] rfl
      have hD9 := hD.sub (ws' := [(ka, .inr (1, co_ fa sg cv cg mt mk tu th)), (fa, .inr (3, fg_ kd pn pt qx qy qs pr sc qt qh mn qm qd))]) [0, 1] (by decide) rfl
      exact W.iret (v := r_1) hx hb hr (fun t ht hW => ⟨⟨r_1, (), rfl, by rw [hw1]; unfold phe_; rw [if_pos h1, if_pos h2], by rw [ht]; exact hP9, va_K.moved hW.alike hK, hD9⟩, hS.F ht⟩) hS.2.2 dX1_placeHere_36
    · refine lv_aload_n hx hb dX1_placeHere_22 rfl (lv_at hl 0 rfl) ?_
      refine va_get (D := g) (ci := 1) (v := .ref fa) (C := RX1) (T := TX1) (N := 8) hx hb hts hiX1 hown hK hP 0 rfl rfl 0 (by decide) (hts (.fieldLink RX1 29 "ShapeRelator$Course" "figure" "LShapeRelator$Figure;") (List.mem_of_getElem? (i := 2) rfl)) (fun _ h9 => h9) rfl dX1_placeHere_23 ?_
      have hPc := hP.sub (ws' := [(fa, .inr (3, fg_ kd pn pt qx qy qs pr sc qt qh mn qm qd))]) [1] rfl
      have hDc := hD.sub (ws' := [(fa, .inr (3, fg_ kd pn pt qx qy qs pr sc qt qh mn qm qd))]) [1] (by decide) rfl
      have hFc := va_free (wc := [(fa, .inr (3, fg_ kd pn pt qx qy qs pr sc qt qh mn qm qd))]) hD hS hA [1] rfl
      refine va_calli (va_runV (As := []) (rest := []) ⟨hx, hb, hml, hown, hts⟩ (kX3_placeOnSegment l g cI cJ cZ s.heap.size fa kd pn pt qx qy qs pr sc qt qh mn qm qd) (cwV 0 hts gX1_placeHere_X3_placeOnSegment rfl rfl rfl (by decide +kernel) ⟨Nat.le_of_ble_eq_true rfl, Nat.le_of_ble_eq_true rfl⟩) (pv_ hK hPc hDc (va_recv hK hPc (ci := 3) (q0 := 0) rfl rfl)) rfl rfl hl.1 rfl (lv_room (Nat.le_of_ble_eq_true rfl)) dX1_placeHere_26 ⟨Nat.zero_le _, Nat.zero_le _⟩) hS (fun q _ h => hFc q h) hFc (fun r_2 u t H1 locs ht hvm hw1 hB hz1 hk1 hS => ?_)
      obtain ⟨hP1, hK1, hD1⟩ := hB
      rw [ht] at hP1
      obtain ⟨hP, hD⟩ := va_join (wr := [(ka, .inr (1, co_ fa sg cv cg mt mk tu th))]) (w1 := [(fa, .inr (3, fg_ kd pn pt qx qy qs pr sc qt qh mn qm qd))]) hP hD [1] [0] rfl rfl (by decide) (by decide) hk1 hFc hP1 hD1
      clear hPc hDc hFc hP1 hD1 hK1 hk1 hz1 hvm ht
      generalize H1 = H at hP hS ⊢
      have hP : va_P g vwCl [(ka, .inr (1, co_ fa sg cv cg mt mk tu th)), (fa, .inr (3, fg_ kd pn pt qx qy qs pr sc qt qh mn qm qd))] H := hP
      have hD : va_D A [(ka, .inr (1, co_ fa sg cv cg mt mk tu th)), (fa, .inr (3, fg_ kd pn pt qx qy qs pr sc qt qh mn qm qd))] := hD
      refine lv_goto (tgt := 36) hx hb dX1_placeHere_29 (by decide) ?_
      have hP9 := hP.sub (ws' := [(ka, .inr (1, co_ fa sg cv cg mt mk tu th)), (fa, .inr (3, fg_ kd pn pt qx qy qs pr sc qt qh mn qm qd))]) [0, 1] rfl
      have hD9 := hD.sub (ws' := [(ka, .inr (1, co_ fa sg cv cg mt mk tu th)), (fa, .inr (3, fg_ kd pn pt qx qy qs pr sc qt qh mn qm qd))]) [0, 1] (by decide) rfl
      exact W.iret (v := r_2) hx hb hr (fun t ht hW => ⟨⟨r_2, (), rfl, by rw [hw1]; unfold phe_; rw [if_pos h1, if_neg h2], by rw [ht]; exact hP9, va_K.moved hW.alike hK, hD9⟩, hS.F ht⟩) hS.2.2 dX1_placeHere_36
  · refine lv_aload_n hx hb dX1_placeHere_7 rfl (lv_at hl 0 rfl) ?_
    refine va_get (D := g) (ci := 1) (v := .ref fa) (C := RX1) (T := TX1) (N := 8) hx hb hts hiX1 hown hK hP 0 rfl rfl 0 (by decide) (hts (.fieldLink RX1 29 "ShapeRelator$Course" "figure" "LShapeRelator$Figure;") (List.mem_of_getElem? (i := 2) rfl)) (fun _ h9 => h9) rfl dX1_placeHere_8 ?_
    have hPc := hP.sub (ws' := [(fa, .inr (3, fg_ kd pn pt qx qy qs pr sc qt qh mn qm qd))]) [1] rfl
    have hDc := hD.sub (ws' := [(fa, .inr (3, fg_ kd pn pt qx qy qs pr sc qt qh mn qm qd))]) [1] (by decide) rfl
    have hFc := va_free (wc := [(fa, .inr (3, fg_ kd pn pt qx qy qs pr sc qt qh mn qm qd))]) hD hS hA [1] rfl
    refine va_calli (va_runV (As := []) (rest := []) ⟨hx, hb, hml, hown, hts⟩ (kX3_placeOnMark l g cI cJ cZ s.heap.size fa kd pn pt qx qy qs pr sc qt qh mn qm qd) (cwV 0 hts gX1_placeHere_X3_placeOnMark rfl rfl rfl (by decide +kernel) ⟨Nat.le_of_ble_eq_true rfl, Nat.le_of_ble_eq_true rfl⟩) (pv_ hK hPc hDc (va_recv hK hPc (ci := 3) (q0 := 0) rfl rfl)) rfl rfl hl.1 rfl (lv_room (Nat.le_of_ble_eq_true rfl)) dX1_placeHere_11 ⟨Nat.zero_le _, Nat.zero_le _⟩) hS (fun q _ h => hFc q h) hFc (fun r_3 u t H1 locs ht hvm hw1 hB hz1 hk1 hS => ?_)
    obtain ⟨hP1, hK1, hD1⟩ := hB
    rw [ht] at hP1
    obtain ⟨hP, hD⟩ := va_join (wr := [(ka, .inr (1, co_ fa sg cv cg mt mk tu th))]) (w1 := [(fa, .inr (3, fg_ kd pn pt qx qy qs pr sc qt qh mn qm qd))]) hP hD [1] [0] rfl rfl (by decide) (by decide) hk1 hFc hP1 hD1
    clear hPc hDc hFc hP1 hD1 hK1 hk1 hz1 hvm ht
    generalize H1 = H at hP hS ⊢
    have hP : va_P g vwCl [(ka, .inr (1, co_ fa sg cv cg mt mk tu th)), (fa, .inr (3, fg_ kd pn pt qx qy qs pr sc qt qh mn qm qd))] H := hP
    have hD : va_D A [(ka, .inr (1, co_ fa sg cv cg mt mk tu th)), (fa, .inr (3, fg_ kd pn pt qx qy qs pr sc qt qh mn qm qd))] := hD
    have hP9 := hP.sub (ws' := [(ka, .inr (1, co_ fa sg cv cg mt mk tu th)), (fa, .inr (3, fg_ kd pn pt qx qy qs pr sc qt qh mn qm qd))]) [0, 1] rfl
    have hD9 := hD.sub (ws' := [(ka, .inr (1, co_ fa sg cv cg mt mk tu th)), (fa, .inr (3, fg_ kd pn pt qx qy qs pr sc qt qh mn qm qd))]) [0, 1] (by decide) rfl
    exact W.iret (v := r_3) hx hb hr (fun t ht hW => ⟨⟨r_3, (), rfl, by rw [hw1]; unfold phe_; rw [if_neg h1], by rw [ht]; exact hP9, va_K.moved hW.alike hK, hD9⟩, hS.F ht⟩) hS.2.2 dX1_placeHere_14
end
