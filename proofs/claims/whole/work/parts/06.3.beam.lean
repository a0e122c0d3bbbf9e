section
theorem ikX0_sideOf_X0 : ∀ w ∈ wsX00, w ∈ wsX0_sideOf := by decide +kernel
set_option maxHeartbeats 1000000 in
set_option maxRecDepth 100000 in
theorem kX0_sideOf (l : Launch) (g : va_G) (cI cJ cZ : ClassId) (sz : Nat) (h : Nat) (x : Int64) (y : Int64) (dx : Int64) (dy : Int64) (px : Int32) (py : Int32)  : Met l yX0_sideOf wsX0_sideOf ({ frames := 0, cells := 0, slots := 0, locals := 0 }) (pc_ g cI cJ cZ [.ref h, .int px, .int py] [(h, .inr (0, bm_ x y dx dy))] sz) (va_Ql (fun (r : Int64) (_ : Unit) => r = sid_ x y dx dy px py) (fun (_ : Unit) t => wd_ g cI cJ cZ (va_A [(h, .inr (0, bm_ x y dx dy))] sz) [(h, .inr (0, bm_ x y dx dy))] t) (va_A [(h, .inr (0, bm_ x y dx dy))] sz)) (0) (0) (va_A [(h, .inr (0, bm_ x y dx dy))] sz) := by
  refine Met.ofW (cc := cX0_sideOf) (maxL := 3) (ret := (some .long)) (by decide) rfl ?_
  intro p e s m args below meth c s₁ B hml hv
  obtain ⟨rfl, hsz, hP, hK, hD0⟩ := hv
  have hx := B.exec
  have hb := B.bytes
  have hr := B.returns
  have hts := atoms_spec (ws := wsX0_sideOf) B.pre
  have hown : s.vm.findClass RX0 = some m.cls := findClass_of_methodNamed B.named
  have hlocks := B.notSynchronized
  subst hsz
  have hD := hD0.self (sz := s.heap.size)
  generalize hAe : va_A [(h, .inr (0, bm_ x y dx dy))] s.heap.size = A at hD ⊢
  have hA : ∀ q : Nat, s.heap.size ≤ q → A q := fun q h => by rw [← hAe]; exact Or.inr h
  have hS : va_S A s.heap s.heap [] := va_S.rf
  have hP : va_P g vwCl [(h, .inr (0, bm_ x y dx dy))] s.heap := hP
  have hl := lv_entry ([.ref h, .int px, .int py]) (n := 3) (Nat.le_of_ble_eq_true rfl)
  rw [lg_entry_eq]
  generalize (lg_sl ([.ref h, .int px, .int py]) ++ List.replicate (3 - (lg_sl ([.ref h, .int px, .int py])).length) Slot.unset).toArray = ls at hl ⊢
  have hl : lv_has ls 3 [(0, .ref h), (1, .int px), (2, .int py)] := hl
  have hH0 : s.heap = s.heap := rfl
  have hiX0 := ikX0_sideOf_X0
  refine lv_aload_n hx hb dX0_sideOf_0 rfl (lv_at hl 0 rfl) ?_
  refine va_get (D := g) (ci := 0) (v := .long dx) (C := RX0) (T := TX0) (N := 4) hx hb hts hiX0 hown hK hP 0 rfl rfl 2 (by decide) (hts (.fieldLink RX0 31 "ShapeRelator$Beam" "dx" "J") (List.mem_of_getElem? (i := 1) rfl)) (fun _ h9 => h9) rfl dX0_sideOf_1 ?_
  refine lv_iload_n hx hb dX0_sideOf_4 rfl (lv_at hl 2 rfl) ?_
  refine lv_i2l hx hb dX0_sideOf_5 rfl ?_
  refine lv_aload_n hx hb dX0_sideOf_6 rfl (lv_at hl 0 rfl) ?_
  refine va_get (D := g) (ci := 0) (v := .long y) (C := RX0) (T := TX0) (N := 4) hx hb hts hiX0 hown hK hP 0 rfl rfl 1 (by decide) (hts (.fieldLink RX0 28 "ShapeRelator$Beam" "y" "J") (List.mem_of_getElem? (i := 2) rfl)) (fun _ h9 => h9) rfl dX0_sideOf_7 ?_
  refine lv_lsub hx hb dX0_sideOf_10 ?_
  refine lv_lmul hx hb dX0_sideOf_11 ?_
  refine lv_aload_n hx hb dX0_sideOf_12 rfl (lv_at hl 0 rfl) ?_
  refine va_get (D := g) (ci := 0) (v := .long dy) (C := RX0) (T := TX0) (N := 4) hx hb hts hiX0 hown hK hP 0 rfl rfl 3 (by decide) (hts (.fieldLink RX0 34 "ShapeRelator$Beam" "dy" "J") (List.mem_of_getElem? (i := 3) rfl)) (fun _ h9 => h9) rfl dX0_sideOf_13 ?_
  refine lv_iload_n hx hb dX0_sideOf_16 rfl (lv_at hl 1 rfl) ?_
  refine lv_i2l hx hb dX0_sideOf_17 rfl ?_
  refine lv_aload_n hx hb dX0_sideOf_18 rfl (lv_at hl 0 rfl) ?_
  refine va_get (D := g) (ci := 0) (v := .long x) (C := RX0) (T := TX0) (N := 4) hx hb hts hiX0 hown hK hP 0 rfl rfl 0 (by decide) (hts (.fieldLink RX0 19 "ShapeRelator$Beam" "x" "J") (List.mem_of_getElem? (i := 4) rfl)) (fun _ h9 => h9) rfl dX0_sideOf_19 ?_
  refine lv_lsub hx hb dX0_sideOf_22 ?_
  refine lv_lmul hx hb dX0_sideOf_23 ?_
  refine lv_lsub hx hb dX0_sideOf_24 ?_
  have hP9 := hP.sub (ws' := [(h, .inr (0, bm_ x y dx dy))]) [0] rfl
  have hD9 := hD.sub (ws' := [(h, .inr (0, bm_ x y dx dy))]) [0] (by decide) rfl
  exact W.lret (v := ((dx * (py.toInt64 - y)) - (dy * (px.toInt64 - x)))) hx hb hr (fun t ht hW => ⟨⟨(dx * (py.toInt64 - y)) - (dy * (px.toInt64 - x)), (), rfl, rfl, by rw [ht]; exact hP9, va_K.moved hW.alike hK, hD9⟩, hS.F ht⟩) hS.2.2 dX0_sideOf_25

theorem ikX0_reach_X0 : ∀ w ∈ wsX00, w ∈ wsX0_reach := by decide +kernel
set_option maxHeartbeats 1000000 in
set_option maxRecDepth 100000 in
theorem kX0_reach (l : Launch) (g : va_G) (cI cJ cZ : ClassId) (sz : Nat) (h : Nat) (x : Int64) (y : Int64) (dx : Int64) (dy : Int64) (px : Int32) (py : Int32) (qx : Int32) (qy : Int32)  : Met l yX0_reach wsX0_reach ({ frames := 0, cells := 0, slots := 0, locals := 0 }) (pc_ g cI cJ cZ [.ref h, .int px, .int py, .int qx, .int qy] [(h, .inr (0, bm_ x y dx dy))] sz) (va_Ql (fun (r : Int64) (_ : Unit) => r = rea_ x y px py qx qy) (fun (_ : Unit) t => wd_ g cI cJ cZ (va_A [(h, .inr (0, bm_ x y dx dy))] sz) [(h, .inr (0, bm_ x y dx dy))] t) (va_A [(h, .inr (0, bm_ x y dx dy))] sz)) (0) (0) (va_A [(h, .inr (0, bm_ x y dx dy))] sz) := by
  refine Met.ofW (cc := cX0_reach) (maxL := 5) (ret := (some .long)) (by decide) rfl ?_
  intro p e s m args below meth c s₁ B hml hv
  obtain ⟨rfl, hsz, hP, hK, hD0⟩ := hv
  have hx := B.exec
  have hb := B.bytes
  have hr := B.returns
  have hts := atoms_spec (ws := wsX0_reach) B.pre
  have hown : s.vm.findClass RX0 = some m.cls := findClass_of_methodNamed B.named
  have hlocks := B.notSynchronized
  subst hsz
  have hD := hD0.self (sz := s.heap.size)
  generalize hAe : va_A [(h, .inr (0, bm_ x y dx dy))] s.heap.size = A at hD ⊢
  have hA : ∀ q : Nat, s.heap.size ≤ q → A q := fun q h => by rw [← hAe]; exact Or.inr h
  have hS : va_S A s.heap s.heap [] := va_S.rf
  have hP : va_P g vwCl [(h, .inr (0, bm_ x y dx dy))] s.heap := hP
  have hl := lv_entry ([.ref h, .int px, .int py, .int qx, .int qy]) (n := 5) (Nat.le_of_ble_eq_true rfl)
  rw [lg_entry_eq]
  generalize (lg_sl ([.ref h, .int px, .int py, .int qx, .int qy]) ++ List.replicate (5 - (lg_sl ([.ref h, .int px, .int py, .int qx, .int qy])).length) Slot.unset).toArray = ls at hl ⊢
  have hl : lv_has ls 5 [(0, .ref h), (1, .int px), (2, .int py), (3, .int qx), (4, .int qy)] := hl
  have hH0 : s.heap = s.heap := rfl
  have hiX0 := ikX0_reach_X0
  refine lv_iload_n hx hb dX0_reach_0 rfl (lv_at hl 1 rfl) ?_
  refine lv_i2l hx hb dX0_reach_1 rfl ?_
  refine lv_aload_n hx hb dX0_reach_2 rfl (lv_at hl 0 rfl) ?_
  refine va_get (D := g) (ci := 0) (v := .long x) (C := RX0) (T := TX0) (N := 4) hx hb hts hiX0 hown hK hP 0 rfl rfl 0 (by decide) (hts (.fieldLink RX0 19 "ShapeRelator$Beam" "x" "J") (List.mem_of_getElem? (i := 1) rfl)) (fun _ h9 => h9) rfl dX0_reach_3 ?_
  refine lv_lsub hx hb dX0_reach_6 ?_
  refine lv_iload hx hb dX0_reach_7 (lv_at hl 4 rfl) ?_
  refine lv_i2l hx hb dX0_reach_9 rfl ?_
  refine lv_iload_n hx hb dX0_reach_10 rfl (lv_at hl 2 rfl) ?_
  refine lv_i2l hx hb dX0_reach_11 rfl ?_
  refine lv_lsub hx hb dX0_reach_12 ?_
  refine lv_lmul hx hb dX0_reach_13 ?_
  refine lv_iload_n hx hb dX0_reach_14 rfl (lv_at hl 2 rfl) ?_
  refine lv_i2l hx hb dX0_reach_15 rfl ?_
  refine lv_aload_n hx hb dX0_reach_16 rfl (lv_at hl 0 rfl) ?_
  refine va_get (D := g) (ci := 0) (v := .long y) (C := RX0) (T := TX0) (N := 4) hx hb hts hiX0 hown hK hP 0 rfl rfl 1 (by decide) (hts (.fieldLink RX0 28 "ShapeRelator$Beam" "y" "J") (List.mem_of_getElem? (i := 2) rfl)) (fun _ h9 => h9) rfl dX0_reach_17 ?_
  refine lv_lsub hx hb dX0_reach_20 ?_
  refine lv_iload_n hx hb dX0_reach_21 rfl (lv_at hl 3 rfl) ?_
  refine lv_i2l hx hb dX0_reach_22 rfl ?_
  refine lv_iload_n hx hb dX0_reach_23 rfl (lv_at hl 1 rfl) ?_
  refine lv_i2l hx hb dX0_reach_24 rfl ?_
  refine lv_lsub hx hb dX0_reach_25 ?_
  refine lv_lmul hx hb dX0_reach_26 ?_
  refine lv_lsub hx hb dX0_reach_27 ?_
  have hP9 := hP.sub (ws' := [(h, .inr (0, bm_ x y dx dy))]) [0] rfl
  have hD9 := hD.sub (ws' := [(h, .inr (0, bm_ x y dx dy))]) [0] (by decide) rfl
  exact W.lret (v := (((px.toInt64 - x) * (qy.toInt64 - py.toInt64)) - ((py.toInt64 - y) * (qx.toInt64 - px.toInt64)))) hx hb hr (fun t ht hW => ⟨⟨((px.toInt64 - x) * (qy.toInt64 - py.toInt64)) - ((py.toInt64 - y) * (qx.toInt64 - px.toInt64)), (), rfl, rfl, by rw [ht]; exact hP9, va_K.moved hW.alike hK, hD9⟩, hS.F ht⟩) hS.2.2 dX0_reach_28

theorem ikX0_along_X0 : ∀ w ∈ wsX00, w ∈ wsX0_along := by decide +kernel
set_option maxHeartbeats 1000000 in
set_option maxRecDepth 100000 in
theorem kX0_along (l : Launch) (g : va_G) (cI cJ cZ : ClassId) (sz : Nat) (h : Nat) (x : Int64) (y : Int64) (dx : Int64) (dy : Int64) (px : Int32) (py : Int32)  : Met l yX0_along wsX0_along ({ frames := 0, cells := 0, slots := 0, locals := 0 }) (pc_ g cI cJ cZ [.ref h, .int px, .int py] [(h, .inr (0, bm_ x y dx dy))] sz) (va_Ql (fun (r : Int64) (_ : Unit) => r = alo_ x y dx dy px py) (fun (_ : Unit) t => wd_ g cI cJ cZ (va_A [(h, .inr (0, bm_ x y dx dy))] sz) [(h, .inr (0, bm_ x y dx dy))] t) (va_A [(h, .inr (0, bm_ x y dx dy))] sz)) (0) (0) (va_A [(h, .inr (0, bm_ x y dx dy))] sz) := by
  refine Met.ofW (cc := cX0_along) (maxL := 3) (ret := (some .long)) (by decide) rfl ?_
  intro p e s m args below meth c s₁ B hml hv
  obtain ⟨rfl, hsz, hP, hK, hD0⟩ := hv
  have hx := B.exec
  have hb := B.bytes
  have hr := B.returns
  have hts := atoms_spec (ws := wsX0_along) B.pre
  have hown : s.vm.findClass RX0 = some m.cls := findClass_of_methodNamed B.named
  have hlocks := B.notSynchronized
  subst hsz
  have hD := hD0.self (sz := s.heap.size)
  generalize hAe : va_A [(h, .inr (0, bm_ x y dx dy))] s.heap.size = A at hD ⊢
  have hA : ∀ q : Nat, s.heap.size ≤ q → A q := fun q h => by rw [← hAe]; exact Or.inr h
  have hS : va_S A s.heap s.heap [] := va_S.rf
  have hP : va_P g vwCl [(h, .inr (0, bm_ x y dx dy))] s.heap := hP
  have hl := lv_entry ([.ref h, .int px, .int py]) (n := 3) (Nat.le_of_ble_eq_true rfl)
  rw [lg_entry_eq]
  generalize (lg_sl ([.ref h, .int px, .int py]) ++ List.replicate (3 - (lg_sl ([.ref h, .int px, .int py])).length) Slot.unset).toArray = ls at hl ⊢
  have hl : lv_has ls 3 [(0, .ref h), (1, .int px), (2, .int py)] := hl
  have hH0 : s.heap = s.heap := rfl
  have hiX0 := ikX0_along_X0
  refine lv_aload_n hx hb dX0_along_0 rfl (lv_at hl 0 rfl) ?_
  refine va_get (D := g) (ci := 0) (v := .long dx) (C := RX0) (T := TX0) (N := 4) hx hb hts hiX0 hown hK hP 0 rfl rfl 2 (by decide) (hts (.fieldLink RX0 31 "ShapeRelator$Beam" "dx" "J") (List.mem_of_getElem? (i := 1) rfl)) (fun _ h9 => h9) rfl dX0_along_1 ?_
  refine lv_lconst (v := 0) hx hb dX0_along_4 (by decide) ?_
  refine W.lcmp hx hb dX0_along_5 ?_
  refine lv_if_eq (tgt := 36) hx hb dX0_along_6 (by decide) (fun h1 => ?_) (fun h1 => ?_)
  · refine lv_aload_n hx hb dX0_along_36 rfl (lv_at hl 0 rfl) ?_
    refine va_get (D := g) (ci := 0) (v := .long dy) (C := RX0) (T := TX0) (N := 4) hx hb hts hiX0 hown hK hP 0 rfl rfl 3 (by decide) (hts (.fieldLink RX0 34 "ShapeRelator$Beam" "dy" "J") (List.mem_of_getElem? (i := 3) rfl)) (fun _ h9 => h9) rfl dX0_along_37 ?_
    refine lv_lconst (v := 0) hx hb dX0_along_40 (by decide) ?_
    refine W.lcmp hx hb dX0_along_41 ?_
    refine lv_if_le (tgt := 55) hx hb dX0_along_42 (by decide) (fun h2 => ?_) (fun h2 => ?_)
    · refine lv_aload_n hx hb dX0_along_55 rfl (lv_at hl 0 rfl) ?_
      refine va_get (D := g) (ci := 0) (v := .long y) (C := RX0) (T := TX0) (N := 4) hx hb hts hiX0 hown hK hP 0 rfl rfl 1 (by decide) (hts (.fieldLink RX0 28 "ShapeRelator$Beam" "y" "J") (List.mem_of_getElem? (i := 4) rfl)) (fun _ h9 => h9) rfl dX0_along_56 ?_
      refine lv_iload_n hx hb dX0_along_59 rfl (lv_at hl 2 rfl) ?_
      refine lv_i2l hx hb dX0_along_60 rfl ?_
      refine lv_lsub hx hb dX0_along_61 ?_
      have hP9 := hP.sub (ws' := [(h, .inr (0, bm_ x y dx dy))]) [0] rfl
      have hD9 := hD.sub (ws' := [(h, .inr (0, bm_ x y dx dy))]) [0] (by decide) rfl
      exact W.lret (v := (y - py.toInt64)) hx hb hr (fun t ht hW => ⟨⟨y - py.toInt64, (), rfl, al1_ h1 h2, by rw [ht]; exact hP9, va_K.moved hW.alike hK, hD9⟩, hS.F ht⟩) hS.2.2 dX0_along_62
    · refine lv_iload_n hx hb dX0_along_45 rfl (lv_at hl 2 rfl) ?_
      refine lv_i2l hx hb dX0_along_46 rfl ?_
      refine lv_aload_n hx hb dX0_along_47 rfl (lv_at hl 0 rfl) ?_
      refine va_get (D := g) (ci := 0) (v := .long y) (C := RX0) (T := TX0) (N := 4) hx hb hts hiX0 hown hK hP 0 rfl rfl 1 (by decide) (hts (.fieldLink RX0 28 "ShapeRelator$Beam" "y" "J") (List.mem_of_getElem? (i := 4) rfl)) (fun _ h9 => h9) rfl dX0_along_48 ?_
      refine lv_lsub hx hb dX0_along_51 ?_
      refine lv_goto (tgt := 62) hx hb dX0_along_52 (by decide) ?_
      have hP9 := hP.sub (ws' := [(h, .inr (0, bm_ x y dx dy))]) [0] rfl
      have hD9 := hD.sub (ws' := [(h, .inr (0, bm_ x y dx dy))]) [0] (by decide) rfl
      exact W.lret (v := (py.toInt64 - y)) hx hb hr (fun t ht hW => ⟨⟨py.toInt64 - y, (), rfl, al2_ h1 h2, by rw [ht]; exact hP9, va_K.moved hW.alike hK, hD9⟩, hS.F ht⟩) hS.2.2 dX0_along_62
  · refine lv_aload_n hx hb dX0_along_9 rfl (lv_at hl 0 rfl) ?_
    refine va_get (D := g) (ci := 0) (v := .long dx) (C := RX0) (T := TX0) (N := 4) hx hb hts hiX0 hown hK hP 0 rfl rfl 2 (by decide) (hts (.fieldLink RX0 31 "ShapeRelator$Beam" "dx" "J") (List.mem_of_getElem? (i := 1) rfl)) (fun _ h9 => h9) rfl dX0_along_10 ?_
    refine lv_lconst (v := 0) hx hb dX0_along_13 (by decide) ?_
    refine W.lcmp hx hb dX0_along_14 ?_
    refine lv_if_le (tgt := 28) hx hb dX0_along_15 (by decide) (fun h2 => ?_) (fun h2 => ?_)
    · refine lv_aload_n hx hb dX0_along_28 rfl (lv_at hl 0 rfl) ?_
      refine va_get (D := g) (ci := 0) (v := .long x) (C := RX0) (T := TX0) (N := 4) hx hb hts hiX0 hown hK hP 0 rfl rfl 0 (by decide) (hts (.fieldLink RX0 19 "ShapeRelator$Beam" "x" "J") (List.mem_of_getElem? (i := 2) rfl)) (fun _ h9 => h9) rfl dX0_along_29 ?_
      refine lv_iload_n hx hb dX0_along_32 rfl (lv_at hl 1 rfl) ?_
      refine lv_i2l hx hb dX0_along_33 rfl ?_
      refine lv_lsub hx hb dX0_along_34 ?_
      have hP9 := hP.sub (ws' := [(h, .inr (0, bm_ x y dx dy))]) [0] rfl
      have hD9 := hD.sub (ws' := [(h, .inr (0, bm_ x y dx dy))]) [0] (by decide) rfl
      exact W.lret (v := (x - px.toInt64)) hx hb hr (fun t ht hW => ⟨⟨x - px.toInt64, (), rfl, al3_ h1 h2, by rw [ht]; exact hP9, va_K.moved hW.alike hK, hD9⟩, hS.F ht⟩) hS.2.2 dX0_along_35
    · refine lv_iload_n hx hb dX0_along_18 rfl (lv_at hl 1 rfl) ?_
      refine lv_i2l hx hb dX0_along_19 rfl ?_
      refine lv_aload_n hx hb dX0_along_20 rfl (lv_at hl 0 rfl) ?_
      refine va_get (D := g) (ci := 0) (v := .long x) (C := RX0) (T := TX0) (N := 4) hx hb hts hiX0 hown hK hP 0 rfl rfl 0 (by decide) (hts (.fieldLink RX0 19 "ShapeRelator$Beam" "x" "J") (List.mem_of_getElem? (i := 2) rfl)) (fun _ h9 => h9) rfl dX0_along_21 ?_
      refine lv_lsub hx hb dX0_along_24 ?_
      refine lv_goto (tgt := 35) hx hb dX0_along_25 (by decide) ?_
      have hP9 := hP.sub (ws' := [(h, .inr (0, bm_ x y dx dy))]) [0] rfl
      have hD9 := hD.sub (ws' := [(h, .inr (0, bm_ x y dx dy))]) [0] (by decide) rfl
      exact W.lret (v := (px.toInt64 - x)) hx hb hr (fun t ht hW => ⟨⟨px.toInt64 - x, (), rfl, al4_ h1 h2, by rw [ht]; exact hP9, va_K.moved hW.alike hK, hD9⟩, hS.F ht⟩) hS.2.2 dX0_along_35

theorem ikX0_span_X0 : ∀ w ∈ wsX00, w ∈ wsX0_span := by decide +kernel
set_option maxHeartbeats 1000000 in
set_option maxRecDepth 100000 in
theorem kX0_span (l : Launch) (g : va_G) (cI cJ cZ : ClassId) (sz : Nat) (h : Nat) (x : Int64) (y : Int64) (dx : Int64) (dy : Int64)  : Met l yX0_span wsX0_span ({ frames := 1, cells := 0, slots := 0, locals := 15 }) (pc_ g cI cJ cZ [.ref h] [(h, .inr (0, bm_ x y dx dy))] sz) (va_Ql (fun (r : Int64) (_ : Unit) => r = spa_ dx dy) (fun (_ : Unit) t => wd_ g cI cJ cZ (va_A [(h, .inr (0, bm_ x y dx dy))] sz) [(h, .inr (0, bm_ x y dx dy))] t) (va_A [(h, .inr (0, bm_ x y dx dy))] sz)) (0) (0) (va_A [(h, .inr (0, bm_ x y dx dy))] sz) := by
  refine Met.ofW (cc := cX0_span) (maxL := 1) (ret := (some .long)) (by decide) rfl ?_
  intro p e s m args below meth c s₁ B hml hv
  obtain ⟨rfl, hsz, hP, hK, hD0⟩ := hv
  have hx := B.exec
  have hb := B.bytes
  have hr := B.returns
  have hts := atoms_spec (ws := wsX0_span) B.pre
  have hown : s.vm.findClass RX0 = some m.cls := findClass_of_methodNamed B.named
  have hlocks := B.notSynchronized
  subst hsz
  have hD := hD0.self (sz := s.heap.size)
  generalize hAe : va_A [(h, .inr (0, bm_ x y dx dy))] s.heap.size = A at hD ⊢
  have hA : ∀ q : Nat, s.heap.size ≤ q → A q := fun q h => by rw [← hAe]; exact Or.inr h
  have hS : va_S A s.heap s.heap [] := va_S.rf
  have hP : va_P g vwCl [(h, .inr (0, bm_ x y dx dy))] s.heap := hP
  have hl := lv_entry ([.ref h]) (n := 1) (Nat.le_of_ble_eq_true rfl)
  rw [lg_entry_eq]
  generalize (lg_sl ([.ref h]) ++ List.replicate (1 - (lg_sl ([.ref h])).length) Slot.unset).toArray = ls at hl ⊢
  have hl : lv_has ls 1 [(0, .ref h)] := hl
  have hH0 : s.heap = s.heap := rfl
  have hiX0 := ikX0_span_X0
  refine lv_aload_n hx hb dX0_span_0 rfl (lv_at hl 0 rfl) ?_
  refine va_get (D := g) (ci := 0) (v := .long dx) (C := RX0) (T := TX0) (N := 4) hx hb hts hiX0 hown hK hP 0 rfl rfl 2 (by decide) (hts (.fieldLink RX0 31 "ShapeRelator$Beam" "dx" "J") (List.mem_of_getElem? (i := 1) rfl)) (fun _ h9 => h9) rfl dX0_span_1 ?_
  refine lv_lconst (v := 0) hx hb dX0_span_4 (by decide) ?_
  refine W.lcmp hx hb dX0_span_5 ?_
  refine lv_if_eq (tgt := 16) hx hb dX0_span_6 (by decide) (fun h1 => ?_) (fun h1 => ?_)
  · refine lv_aload_n hx hb dX0_span_16 rfl (lv_at hl 0 rfl) ?_
    refine va_get (D := g) (ci := 0) (v := .long dy) (C := RX0) (T := TX0) (N := 4) hx hb hts hiX0 hown hK hP 0 rfl rfl 3 (by decide) (hts (.fieldLink RX0 34 "ShapeRelator$Beam" "dy" "J") (List.mem_of_getElem? (i := 2) rfl)) (fun _ h9 => h9) rfl dX0_span_17 ?_
    refine va_mabs_long hx hb (hml.trans hl.1.symm) hown (hts (.methodLink RX0 37 Lib.MathLoose.abs_long.x) (List.mem_of_getElem? (i := 3) rfl)) (hts (.static Lib.MathLoose.abs_long.x) (List.mem_of_getElem? (i := 4) rfl)) (hts (.initialized "java/lang/Math") (List.mem_of_getElem? (i := 5) rfl)) (hts (.code Lib.MathLoose.abs_long.x Lib.MathLoose.abs_long.code 2 (some .long)) (List.mem_of_getElem? (i := 6) rfl)) (Nat.le_of_ble_eq_true rfl) (Nat.le_of_ble_eq_true rfl) (Nat.zero_le _) (Nat.zero_le _) dX0_span_20 ?_
    have hP9 := hP.sub (ws' := [(h, .inr (0, bm_ x y dx dy))]) [0] rfl
    have hD9 := hD.sub (ws' := [(h, .inr (0, bm_ x y dx dy))]) [0] (by decide) rfl
    exact W.lret (v := (if 0 < dy then dy else -dy)) hx hb hr (fun t ht hW => ⟨⟨if 0 < dy then dy else -dy, (), rfl, by unfold spa_; rw [if_pos ((lg_cmp_eq _ _).mp h1)], by rw [ht]; exact hP9, va_K.moved hW.alike hK, hD9⟩, hS.F ht⟩) hS.2.2 dX0_span_23
  · refine lv_aload_n hx hb dX0_span_9 rfl (lv_at hl 0 rfl) ?_
    refine va_get (D := g) (ci := 0) (v := .long dx) (C := RX0) (T := TX0) (N := 4) hx hb hts hiX0 hown hK hP 0 rfl rfl 2 (by decide) (hts (.fieldLink RX0 31 "ShapeRelator$Beam" "dx" "J") (List.mem_of_getElem? (i := 1) rfl)) (fun _ h9 => h9) rfl dX0_span_10 ?_
    refine lv_goto (tgt := 20) hx hb dX0_span_13 (by decide) ?_
    refine va_mabs_long hx hb (hml.trans hl.1.symm) hown (hts (.methodLink RX0 37 Lib.MathLoose.abs_long.x) (List.mem_of_getElem? (i := 3) rfl)) (hts (.static Lib.MathLoose.abs_long.x) (List.mem_of_getElem? (i := 4) rfl)) (hts (.initialized "java/lang/Math") (List.mem_of_getElem? (i := 5) rfl)) (hts (.code Lib.MathLoose.abs_long.x Lib.MathLoose.abs_long.code 2 (some .long)) (List.mem_of_getElem? (i := 6) rfl)) (Nat.le_of_ble_eq_true rfl) (Nat.le_of_ble_eq_true rfl) (Nat.zero_le _) (Nat.zero_le _) dX0_span_20 ?_
    have hP9 := hP.sub (ws' := [(h, .inr (0, bm_ x y dx dy))]) [0] rfl
    have hD9 := hD.sub (ws' := [(h, .inr (0, bm_ x y dx dy))]) [0] (by decide) rfl
    exact W.lret (v := (if 0 < dx then dx else -dx)) hx hb hr (fun t ht hW => ⟨⟨if 0 < dx then dx else -dx, (), rfl, by unfold spa_; rw [if_neg (fun h => h1 ((lg_cmp_eq _ _).mpr h))], by rw [ht]; exact hP9, va_K.moved hW.alike hK, hD9⟩, hS.F ht⟩) hS.2.2 dX0_span_23

set_option maxHeartbeats 1000000 in
set_option maxRecDepth 100000 in
theorem kX0_init (l : Launch) (g : va_G) (cI cJ cZ : ClassId) (sz : Nat) (h : Nat) (x : Int64) (y : Int64) (dx : Int64) (dy : Int64)  : Met l yX0_init wsX0_init ({ frames := 1, cells := 0, slots := 0, locals := 12 }) (pc_ g cI cJ cZ [.ref h] [(h, .inr (0, bm_ x y dx dy))] sz) (va_Qv (fun (_ : Unit) => True) (fun (_ : Unit) t => wd_ g cI cJ cZ (va_A [(h, .inr (0, bm_ x y dx dy))] sz) [(h, .inr (0, bm_ x y dx dy))] t) (va_A [(h, .inr (0, bm_ x y dx dy))] sz)) (0) (0) (va_A [(h, .inr (0, bm_ x y dx dy))] sz) := by
  refine Met.ofW (cc := cX0_init) (maxL := 1) (ret := none) (by decide) rfl ?_
  intro p e s m args below meth c s₁ B hml hv
  obtain ⟨rfl, hsz, hP, hK, hD0⟩ := hv
  have hx := B.exec
  have hb := B.bytes
  have hr := B.returns
  have hts := atoms_spec (ws := wsX0_init) B.pre
  have hown : s.vm.findClass RX0 = some m.cls := findClass_of_methodNamed B.named
  have hlocks := B.notSynchronized
  have hin : meth.name = "<init>" := (name_of_methodNamed B.named B.method).1
  subst hsz
  have hD := hD0.self (sz := s.heap.size)
  generalize hAe : va_A [(h, .inr (0, bm_ x y dx dy))] s.heap.size = A at hD ⊢
  have hA : ∀ q : Nat, s.heap.size ≤ q → A q := fun q h => by rw [← hAe]; exact Or.inr h
  have hS : va_S A s.heap s.heap [] := va_S.rf
  have hP : va_P g vwCl [(h, .inr (0, bm_ x y dx dy))] s.heap := hP
  have hl := lv_entry ([.ref h]) (n := 1) (Nat.le_of_ble_eq_true rfl)
  rw [lg_entry_eq]
  generalize (lg_sl ([.ref h]) ++ List.replicate (1 - (lg_sl ([.ref h])).length) Slot.unset).toArray = ls at hl ⊢
  have hl : lv_has ls 1 [(0, .ref h)] := hl
  have hH0 : s.heap = s.heap := rfl
  refine lv_aload_n hx hb dX0_init_0 rfl (lv_at hl 0 rfl) ?_
  refine W.objInit hx hb hown (hts (.methodLink RX0 1 objectInit) (List.mem_of_getElem? (i := 1) rfl)) (hts (.instanceMethod objectInit) (List.mem_of_getElem? (i := 2) rfl)) (hts (.code objectInit ⟨#[0xb1]⟩ 1 none) (List.mem_of_getElem? (i := 3) rfl)) rfl (by rw [hml]; exact hl.1) rfl dX0_init_1 (Nat.le_of_ble_eq_true rfl) (Nat.le_of_ble_eq_true rfl) ?_
  refine W.eq (g2 := F0 m 4 ls []) rfl ?_
  have hP9 := hP.sub (ws' := [(h, .inr (0, bm_ x y dx dy))]) [0] rfl
  have hD9 := hD.sub (ws' := [(h, .inr (0, bm_ x y dx dy))]) [0] (by decide) rfl
  exact W.vret hx hb hr (fun t ht hW => ⟨⟨(), rfl, trivial, by rw [ht]; exact hP9, va_K.moved hW.alike hK, hD9⟩, hS.F ht⟩) hS.2.2 dX0_init_4

theorem ikX0_lay_X0 : ∀ w ∈ wsX00, w ∈ wsX0_lay := by decide +kernel
theorem ikX0_lay_X3 : ∀ w ∈ wsX30, w ∈ wsX0_lay := by decide +kernel
set_option maxHeartbeats 1000000 in
set_option maxRecDepth 100000 in
theorem kX0_lay (l : Launch) (g : va_G) (cI cJ cZ : ClassId) (sz : Nat) (h : Nat) (x : Int64) (y : Int64) (dx : Int64) (dy : Int64) (fa : Nat) (kd : Int32) (pn : Int32) (pt : Int32) (qx : Nat) (qy : Nat) (qs : Nat) (pr : Int32) (sc : Int32) (qt : Nat) (qh : Nat) (mn : Int32) (qm : Nat) (qd : Nat) (cx : Nat) (xs : Nat → Int32) (ys : Nat → Int32) (ct : Nat) (ta : Nat → Int32) (he : Nat → Int32) (k : Nat) (tk : Nat) (hk : Nat) (h1 : ct < 1000000) (h2 : cx < 1000000) (h3 : k < ct) (h4 : ta k = nI tk) (h5 : he k = nI hk) (h6 : tk < cx) (h7 : hk < cx) : Met l yX0_lay wsX0_lay ({ frames := 0, cells := 0, slots := 0, locals := 0 }) (pc_ g cI cJ cZ [.ref h, .ref fa, .int (nI k)] [(h, .inr (0, bm_ x y dx dy)), (fa, .inr (3, fg_ kd pn pt qx qy qs pr sc qt qh mn qm qd)), (qx, .inl (cI, cx, .inl xs)), (qy, .inl (cI, cx, .inl ys)), (qt, .inl (cI, ct, .inl ta)), (qh, .inl (cI, ct, .inl he))] sz) (va_Qv (fun (_ : Unit) => True) (fun (_ : Unit) t => wd_ g cI cJ cZ (va_A [(h, .inr (0, bm_ x y dx dy)), (fa, .inr (3, fg_ kd pn pt qx qy qs pr sc qt qh mn qm qd)), (qx, .inl (cI, cx, .inl xs)), (qy, .inl (cI, cx, .inl ys)), (qt, .inl (cI, ct, .inl ta)), (qh, .inl (cI, ct, .inl he))] sz) [(h, .inr (0, bm_ ((xs tk).toInt64) ((ys tk).toInt64) ((xs hk).toInt64 - (xs tk).toInt64) ((ys hk).toInt64 - (ys tk).toInt64))), (fa, .inr (3, fg_ kd pn pt qx qy qs pr sc qt qh mn qm qd)), (qx, .inl (cI, cx, .inl xs)), (qy, .inl (cI, cx, .inl ys)), (qt, .inl (cI, ct, .inl ta)), (qh, .inl (cI, ct, .inl he))] t) (va_A [(h, .inr (0, bm_ x y dx dy)), (fa, .inr (3, fg_ kd pn pt qx qy qs pr sc qt qh mn qm qd)), (qx, .inl (cI, cx, .inl xs)), (qy, .inl (cI, cx, .inl ys)), (qt, .inl (cI, ct, .inl ta)), (qh, .inl (cI, ct, .inl he))] sz)) (0) (0) (va_A [(h, .inr (0, bm_ x y dx dy)), (fa, .inr (3, fg_ kd pn pt qx qy qs pr sc qt qh mn qm qd)), (qx, .inl (cI, cx, .inl xs)), (qy, .inl (cI, cx, .inl ys)), (qt, .inl (cI, ct, .inl ta)), (qh, .inl (cI, ct, .inl he))] sz) := by
  refine Met.ofW (cc := cX0_lay) (maxL := 5) (ret := none) (by decide) rfl ?_
  intro p e s m args below meth c s₁ B hml hv
  obtain ⟨rfl, hsz, hP, hK, hD0⟩ := hv
  have hx := B.exec
  have hb := B.bytes
  have hr := B.returns
  have hts := atoms_spec (ws := wsX0_lay) B.pre
  have hown : s.vm.findClass RX0 = some m.cls := findClass_of_methodNamed B.named
  have hlocks := B.notSynchronized
  subst hsz
  have hD := hD0.self (sz := s.heap.size)
  generalize hAe : va_A [(h, .inr (0, bm_ x y dx dy)), (fa, .inr (3, fg_ kd pn pt qx qy qs pr sc qt qh mn qm qd)), (qx, .inl (cI, cx, .inl xs)), (qy, .inl (cI, cx, .inl ys)), (qt, .inl (cI, ct, .inl ta)), (qh, .inl (cI, ct, .inl he))] s.heap.size = A at hD ⊢
  have hA : ∀ q : Nat, s.heap.size ≤ q → A q := fun q h => by rw [← hAe]; exact Or.inr h
  have hS : va_S A s.heap s.heap [] := va_S.rf
  have hP : va_P g vwCl [(h, .inr (0, bm_ x y dx dy)), (fa, .inr (3, fg_ kd pn pt qx qy qs pr sc qt qh mn qm qd)), (qx, .inl (cI, cx, .inl xs)), (qy, .inl (cI, cx, .inl ys)), (qt, .inl (cI, ct, .inl ta)), (qh, .inl (cI, ct, .inl he))] s.heap := hP
  have hl := lv_entry ([.ref h, .ref fa, .int (nI k)]) (n := 5) (Nat.le_of_ble_eq_true rfl)
  rw [lg_entry_eq]
  generalize (lg_sl ([.ref h, .ref fa, .int (nI k)]) ++ List.replicate (5 - (lg_sl ([.ref h, .ref fa, .int (nI k)])).length) Slot.unset).toArray = ls at hl ⊢
  have hl : lv_has ls 5 [(0, .ref h), (1, .ref fa), (2, .int (nI k))] := hl
  have hH0 : s.heap = s.heap := rfl
  have hiX0 := ikX0_lay_X0
  have hiX3 := ikX0_lay_X3
  refine lv_aload_n hx hb dX0_lay_0 rfl (lv_at hl 1 rfl) ?_
  refine va_get (D := g) (ci := 3) (v := .ref qt) (C := RX3) (T := TX3) (N := 13) hx hb hts hiX3 hown hK hP 1 rfl rfl 8 (by decide) (hts (.fieldLink RX0 7 "ShapeRelator$Figure" "tails" "[I") (List.mem_of_getElem? (i := 1) rfl)) (fun _ h9 => h9) rfl dX0_lay_1 ?_
  refine lv_iload_n hx hb dX0_lay_4 rfl (lv_at hl 2 rfl) ?_
  refine va_iald (D := g) hx hb hK hP 4 0 rfl rfl (vp_in_nI (h3) (by omega)) dX0_lay_5 ?_
  refine tpi_ (y := (nI tk)) (by rw [nI_clamp (by omega), h4]) ?_
  refine lv_istore_n (lv' := [(3, .int (nI tk)), (0, .ref h), (1, .ref fa), (2, .int (nI k))]) hx hb dX0_lay_6 rfl hl (by decide) rfl (fun ls hl => ?_)
  refine lv_aload_n hx hb dX0_lay_7 rfl (lv_at hl 2 rfl) ?_
  refine va_get (D := g) (ci := 3) (v := .ref qh) (C := RX3) (T := TX3) (N := 13) hx hb hts hiX3 hown hK hP 1 rfl rfl 9 (by decide) (hts (.fieldLink RX0 13 "ShapeRelator$Figure" "heads" "[I") (List.mem_of_getElem? (i := 2) rfl)) (fun _ h9 => h9) rfl dX0_lay_8 ?_
  refine lv_iload_n hx hb dX0_lay_11 rfl (lv_at hl 3 rfl) ?_
  refine va_iald (D := g) hx hb hK hP 5 0 rfl rfl (vp_in_nI (h3) (by omega)) dX0_lay_12 ?_
  refine tpi_ (y := (nI hk)) (by rw [nI_clamp (by omega), h5]) ?_
  refine lv_istore (lv' := [(4, .int (nI hk)), (3, .int (nI tk)), (0, .ref h), (1, .ref fa), (2, .int (nI k))]) hx hb dX0_lay_13 hl (by decide) rfl (fun ls hl => ?_)
  refine lv_aload_n hx hb dX0_lay_15 rfl (lv_at hl 2 rfl) ?_
  refine lv_aload_n hx hb dX0_lay_16 rfl (lv_at hl 3 rfl) ?_
  refine va_get (D := g) (ci := 3) (v := .ref qx) (C := RX3) (T := TX3) (N := 13) hx hb hts hiX3 hown hK hP 1 rfl rfl 3 (by decide) (hts (.fieldLink RX0 16 "ShapeRelator$Figure" "xs" "[I") (List.mem_of_getElem? (i := 3) rfl)) (fun _ h9 => h9) rfl dX0_lay_17 ?_
  refine lv_iload_n hx hb dX0_lay_20 rfl (lv_at hl 1 rfl) ?_
  refine va_iald (D := g) hx hb hK hP 2 0 rfl rfl (vp_in_nI (h6) (by omega)) dX0_lay_21 ?_
  refine tpi_ (y := (xs tk)) (by rw [nI_clamp (by omega)]) ?_
  refine lv_i2l hx hb dX0_lay_22 rfl ?_
  refine va_put (D := g) (ci := 0) (v := .long ((xs tk).toInt64)) (ty := .long) (C := RX0) (T := TX0) (N := 4) hx hb hts hiX0 tyX0 tyX0_ok nmX0 hown hK hP hD hS 0 rfl rfl 0 (by decide) (hts (.fieldLink RX0 19 "ShapeRelator$Beam" "x" "J") (List.mem_of_getElem? (i := 4) rfl)) (fun _ h9 => h9) rfl (by decide +kernel) rfl rfl (Nat.le_of_ble_eq_true rfl) dX0_lay_23 (fun H locs hP hD hS => ?_)
  have hP : va_P g vwCl [(h, .inr (0, bm_ ((xs tk).toInt64) y dx dy)), (fa, .inr (3, fg_ kd pn pt qx qy qs pr sc qt qh mn qm qd)), (qx, .inl (cI, cx, .inl xs)), (qy, .inl (cI, cx, .inl ys)), (qt, .inl (cI, ct, .inl ta)), (qh, .inl (cI, ct, .inl he))] H := hP
  have hD : va_D A [(h, .inr (0, bm_ ((xs tk).toInt64) y dx dy)), (fa, .inr (3, fg_ kd pn pt qx qy qs pr sc qt qh mn qm qd)), (qx, .inl (cI, cx, .inl xs)), (qy, .inl (cI, cx, .inl ys)), (qt, .inl (cI, ct, .inl ta)), (qh, .inl (cI, ct, .inl he))] := hD
  refine lv_aload_n hx hb dX0_lay_26 rfl (lv_at hl 2 rfl) ?_
  refine lv_aload_n hx hb dX0_lay_27 rfl (lv_at hl 3 rfl) ?_
  refine va_get (D := g) (ci := 3) (v := .ref qy) (C := RX3) (T := TX3) (N := 13) hx hb hts hiX3 hown hK hP 1 rfl rfl 4 (by decide) (hts (.fieldLink RX0 25 "ShapeRelator$Figure" "ys" "[I") (List.mem_of_getElem? (i := 5) rfl)) (fun _ h9 => h9) rfl dX0_lay_28 ?_
  refine lv_iload_n hx hb dX0_lay_31 rfl (lv_at hl 1 rfl) ?_
  refine va_iald (D := g) hx hb hK hP 3 0 rfl rfl (vp_in_nI (h6) (by omega)) dX0_lay_32 ?_
  refine tpi_ (y := (ys tk)) (by rw [nI_clamp (by omega)]) ?_
  refine lv_i2l hx hb dX0_lay_33 rfl ?_
  refine va_put (D := g) (ci := 0) (v := .long ((ys tk).toInt64)) (ty := .long) (C := RX0) (T := TX0) (N := 4) hx hb hts hiX0 tyX0 tyX0_ok nmX0 hown hK hP hD hS 0 rfl rfl 1 (by decide) (hts (.fieldLink RX0 28 "ShapeRelator$Beam" "y" "J") (List.mem_of_getElem? (i := 6) rfl)) (fun _ h9 => h9) rfl (by decide +kernel) rfl rfl (Nat.le_of_ble_eq_true rfl) dX0_lay_34 (fun H locs hP hD hS => ?_)
  have hP : va_P g vwCl [(h, .inr (0, bm_ ((xs tk).toInt64) ((ys tk).toInt64) dx dy)), (fa, .inr (3, fg_ kd pn pt qx qy qs pr sc qt qh mn qm qd)), (qx, .inl (cI, cx, .inl xs)), (qy, .inl (cI, cx, .inl ys)), (qt, .inl (cI, ct, .inl ta)), (qh, .inl (cI, ct, .inl he))] H := hP
  have hD : va_D A [(h, .inr (0, bm_ ((xs tk).toInt64) ((ys tk).toInt64) dx dy)), (fa, .inr (3, fg_ kd pn pt qx qy qs pr sc qt qh mn qm qd)), (qx, .inl (cI, cx, .inl xs)), (qy, .inl (cI, cx, .inl ys)), (qt, .inl (cI, ct, .inl ta)), (qh, .inl (cI, ct, .inl he))] := hD
  refine lv_aload_n hx hb dX0_lay_37 rfl (lv_at hl 2 rfl) ?_
  refine lv_aload_n hx hb dX0_lay_38 rfl (lv_at hl 3 rfl) ?_
  refine va_get (D := g) (ci := 3) (v := .ref qx) (C := RX3) (T := TX3) (N := 13) hx hb hts hiX3 hown hK hP 1 rfl rfl 3 (by decide) (hts (.fieldLink RX0 16 "ShapeRelator$Figure" "xs" "[I") (List.mem_of_getElem? (i := 3) rfl)) (fun _ h9 => h9) rfl dX0_lay_39 ?_
  refine lv_iload hx hb dX0_lay_42 (lv_at hl 0 rfl) ?_
  refine va_iald (D := g) hx hb hK hP 2 0 rfl rfl (vp_in_nI (h7) (by omega)) dX0_lay_44 ?_
  refine tpi_ (y := (xs hk)) (by rw [nI_clamp (by omega)]) ?_
  refine lv_i2l hx hb dX0_lay_45 rfl ?_
  refine lv_aload_n hx hb dX0_lay_46 rfl (lv_at hl 2 rfl) ?_
  refine va_get (D := g) (ci := 0) (v := .long ((xs tk).toInt64)) (C := RX0) (T := TX0) (N := 4) hx hb hts hiX0 hown hK hP 0 rfl rfl 0 (by decide) (hts (.fieldLink RX0 19 "ShapeRelator$Beam" "x" "J") (List.mem_of_getElem? (i := 4) rfl)) (fun _ h9 => h9) rfl dX0_lay_47 ?_
  refine lv_lsub hx hb dX0_lay_50 ?_
  refine va_put (D := g) (ci := 0) (v := .long (((xs hk).toInt64) - ((xs tk).toInt64))) (ty := .long) (C := RX0) (T := TX0) (N := 4) hx hb hts hiX0 tyX0 tyX0_ok nmX0 hown hK hP hD hS 0 rfl rfl 2 (by decide) (hts (.fieldLink RX0 31 "ShapeRelator$Beam" "dx" "J") (List.mem_of_getElem? (i := 7) rfl)) (fun _ h9 => h9) rfl (by decide +kernel) rfl rfl (Nat.le_of_ble_eq_true rfl) dX0_lay_51 (fun H locs hP hD hS => ?_)
  have hP : va_P g vwCl [(h, .inr (0, bm_ ((xs tk).toInt64) ((ys tk).toInt64) (((xs hk).toInt64) - ((xs tk).toInt64)) dy)), (fa, .inr (3, fg_ kd pn pt qx qy qs pr sc qt qh mn qm qd)), (qx, .inl (cI, cx, .inl xs)), (qy, .inl (cI, cx, .inl ys)), (qt, .inl (cI, ct, .inl ta)), (qh, .inl (cI, ct, .inl he))] H := hP
  have hD : va_D A [(h, .inr (0, bm_ ((xs tk).toInt64) ((ys tk).toInt64) (((xs hk).toInt64) - ((xs tk).toInt64)) dy)), (fa, .inr (3, fg_ kd pn pt qx qy qs pr sc qt qh mn qm qd)), (qx, .inl (cI, cx, .inl xs)), (qy, .inl (cI, cx, .inl ys)), (qt, .inl (cI, ct, .inl ta)), (qh, .inl (cI, ct, .inl he))] := hD
  refine lv_aload_n hx hb dX0_lay_54 rfl (lv_at hl 2 rfl) ?_
  refine lv_aload_n hx hb dX0_lay_55 rfl (lv_at hl 3 rfl) ?_
  refine va_get (D := g) (ci := 3) (v := .ref qy) (C := RX3) (T := TX3) (N := 13) hx hb hts hiX3 hown hK hP 1 rfl rfl 4 (by decide) (hts (.fieldLink RX0 25 "ShapeRelator$Figure" "ys" "[I") (List.mem_of_getElem? (i := 5) rfl)) (fun _ h9 => h9) rfl dX0_lay_56 ?_
  refine lv_iload hx hb dX0_lay_59 (lv_at hl 0 rfl) ?_
  refine va_iald (D := g) hx hb hK hP 3 0 rfl rfl (vp_in_nI (h7) (by omega)) dX0_lay_61 ?_
  refine tpi_ (y := (ys hk)) (by rw [nI_clamp (by omega)]) ?_
  refine lv_i2l hx hb dX0_lay_62 rfl ?_
  refine lv_aload_n hx hb dX0_lay_63 rfl (lv_at hl 2 rfl) ?_
  refine va_get (D := g) (ci := 0) (v := .long ((ys tk).toInt64)) (C := RX0) (T := TX0) (N := 4) hx hb hts hiX0 hown hK hP 0 rfl rfl 1 (by decide) (hts (.fieldLink RX0 28 "ShapeRelator$Beam" "y" "J") (List.mem_of_getElem? (i := 6) rfl)) (fun _ h9 => h9) rfl dX0_lay_64 ?_
  refine lv_lsub hx hb dX0_lay_67 ?_
  refine va_put (D := g) (ci := 0) (v := .long (((ys hk).toInt64) - ((ys tk).toInt64))) (ty := .long) (C := RX0) (T := TX0) (N := 4) hx hb hts hiX0 tyX0 tyX0_ok nmX0 hown hK hP hD hS 0 rfl rfl 3 (by decide) (hts (.fieldLink RX0 34 "ShapeRelator$Beam" "dy" "J") (List.mem_of_getElem? (i := 8) rfl)) (fun _ h9 => h9) rfl (by decide +kernel) rfl rfl (Nat.le_of_ble_eq_true rfl) dX0_lay_68 (fun H locs hP hD hS => ?_)
  have hP : va_P g vwCl [(h, .inr (0, bm_ ((xs tk).toInt64) ((ys tk).toInt64) (((xs hk).toInt64) - ((xs tk).toInt64)) (((ys hk).toInt64) - ((ys tk).toInt64)))), (fa, .inr (3, fg_ kd pn pt qx qy qs pr sc qt qh mn qm qd)), (qx, .inl (cI, cx, .inl xs)), (qy, .inl (cI, cx, .inl ys)), (qt, .inl (cI, ct, .inl ta)), (qh, .inl (cI, ct, .inl he))] H := hP
  have hD : va_D A [(h, .inr (0, bm_ ((xs tk).toInt64) ((ys tk).toInt64) (((xs hk).toInt64) - ((xs tk).toInt64)) (((ys hk).toInt64) - ((ys tk).toInt64)))), (fa, .inr (3, fg_ kd pn pt qx qy qs pr sc qt qh mn qm qd)), (qx, .inl (cI, cx, .inl xs)), (qy, .inl (cI, cx, .inl ys)), (qt, .inl (cI, ct, .inl ta)), (qh, .inl (cI, ct, .inl he))] := hD
  have hP9 := hP.sub (ws' := [(h, .inr (0, bm_ ((xs tk).toInt64) ((ys tk).toInt64) ((xs hk).toInt64 - (xs tk).toInt64) ((ys hk).toInt64 - (ys tk).toInt64))), (fa, .inr (3, fg_ kd pn pt qx qy qs pr sc qt qh mn qm qd)), (qx, .inl (cI, cx, .inl xs)), (qy, .inl (cI, cx, .inl ys)), (qt, .inl (cI, ct, .inl ta)), (qh, .inl (cI, ct, .inl he))]) [0, 1, 2, 3, 4, 5] rfl
  have hD9 := hD.sub (ws' := [(h, .inr (0, bm_ ((xs tk).toInt64) ((ys tk).toInt64) ((xs hk).toInt64 - (xs tk).toInt64) ((ys hk).toInt64 - (ys tk).toInt64))), (fa, .inr (3, fg_ kd pn pt qx qy qs pr sc qt qh mn qm qd)), (qx, .inl (cI, cx, .inl xs)), (qy, .inl (cI, cx, .inl ys)), (qt, .inl (cI, ct, .inl ta)), (qh, .inl (cI, ct, .inl he))]) [0, 1, 2, 3, 4, 5] (by decide) rfl
  exact W.vret hx hb hr (fun t ht hW => ⟨⟨(), rfl, trivial, by rw [ht]; exact hP9, va_K.moved hW.alike hK, hD9⟩, hS.F ht⟩) hS.2.2 dX0_lay_71
end
