section
theorem ikX3_sideOfSegment_X3 : ∀ w ∈ wsX30, w ∈ wsX3_sideOfSegment := by decide +kernel
set_option maxHeartbeats 1000000 in
set_option maxRecDepth 100000 in
theorem kX3_sideOfSegment (l : Launch) (g : va_G) (cI cJ cZ : ClassId) (sz : Nat) (fa : Nat) (kd : Int32) (pn : Int32) (pt : Int32) (qx : Nat) (qy : Nat) (qs : Nat) (pr : Int32) (sc : Int32) (qt : Nat) (qh : Nat) (mn : Int32) (qm : Nat) (qd : Nat) (cx : Nat) (xs : Nat → Int32) (ys : Nat → Int32) (tn : Nat) (hn : Nat) (x1 : Int32) (y1 : Int32) (h2 : cx < 1000000) (h3 : tn < cx) (h4 : hn < cx) : Met l yX3_sideOfSegment wsX3_sideOfSegment ({ frames := 0, cells := 0, slots := 0, locals := 0 }) (pc_ g cI cJ cZ [.ref fa, .int (nI tn), .int (nI hn), .int x1, .int y1] [(fa, .inr (3, fg_ kd pn pt qx qy qs pr sc qt qh mn qm qd)), (qx, .inl (cI, cx, .inl xs)), (qy, .inl (cI, cx, .inl ys))] sz) (va_Ql (fun (r : Int64) (_ : Unit) => r = sos_ xs ys tn hn x1 y1) (fun (_ : Unit) t => wd_ g cI cJ cZ (va_A [(fa, .inr (3, fg_ kd pn pt qx qy qs pr sc qt qh mn qm qd)), (qx, .inl (cI, cx, .inl xs)), (qy, .inl (cI, cx, .inl ys))] sz) [(fa, .inr (3, fg_ kd pn pt qx qy qs pr sc qt qh mn qm qd)), (qx, .inl (cI, cx, .inl xs)), (qy, .inl (cI, cx, .inl ys))] t) (va_A [(fa, .inr (3, fg_ kd pn pt qx qy qs pr sc qt qh mn qm qd)), (qx, .inl (cI, cx, .inl xs)), (qy, .inl (cI, cx, .inl ys))] sz)) (0) (0) (va_A [(fa, .inr (3, fg_ kd pn pt qx qy qs pr sc qt qh mn qm qd)), (qx, .inl (cI, cx, .inl xs)), (qy, .inl (cI, cx, .inl ys))] sz) := by
  refine Met.ofW (cc := cX3_sideOfSegment) (maxL := 9) (ret := (some .long)) (by decide) rfl ?_
  intro p e s m args below meth c s₁ B hml hv
  obtain ⟨rfl, hsz, hP, hK, hD0⟩ := hv
  have hx := B.exec
  have hb := B.bytes
  have hr := B.returns
  have hts := atoms_spec (ws := wsX3_sideOfSegment) B.pre
  have hown : s.vm.findClass RX3 = some m.cls := findClass_of_methodNamed B.named
  have hlocks := B.notSynchronized
  subst hsz
  have hD := hD0.self (sz := s.heap.size)
  generalize hAe : va_A [(fa, .inr (3, fg_ kd pn pt qx qy qs pr sc qt qh mn qm qd)), (qx, .inl (cI, cx, .inl xs)), (qy, .inl (cI, cx, .inl ys))] s.heap.size = A at hD ⊢
  have hA : ∀ q : Nat, s.heap.size ≤ q → A q := fun q h => by rw [← hAe]; exact Or.inr h
  have hS : va_S A s.heap s.heap [] := va_S.rf
  have hP : va_P g vwCl [(fa, .inr (3, fg_ kd pn pt qx qy qs pr sc qt qh mn qm qd)), (qx, .inl (cI, cx, .inl xs)), (qy, .inl (cI, cx, .inl ys))] s.heap := hP
  have hl := lv_entry ([.ref fa, .int (nI tn), .int (nI hn), .int x1, .int y1]) (n := 9) (Nat.le_of_ble_eq_true rfl)
  rw [lg_entry_eq]
  generalize (lg_sl ([.ref fa, .int (nI tn), .int (nI hn), .int x1, .int y1]) ++ List.replicate (9 - (lg_sl ([.ref fa, .int (nI tn), .int (nI hn), .int x1, .int y1])).length) Slot.unset).toArray = ls at hl ⊢
  have hl : lv_has ls 9 [(0, .ref fa), (1, .int (nI tn)), (2, .int (nI hn)), (3, .int x1), (4, .int y1)] := hl
  have hH0 : s.heap = s.heap := rfl
  have hiX3 := ikX3_sideOfSegment_X3
  refine lv_aload_n hx hb dX3_sideOfSegment_0 rfl (lv_at hl 0 rfl) ?_
  refine va_get (D := g) (ci := 3) (v := .ref qx) (C := RX3) (T := TX3) (N := 13) hx hb hts hiX3 hown hK hP 0 rfl rfl 3 (by decide) (hts (.fieldLink RX3 21 "ShapeRelator$Figure" "xs" "[I") (List.mem_of_getElem? (i := 1) rfl)) (fun _ h9 => h9) rfl dX3_sideOfSegment_1 ?_
  refine lv_iload_n hx hb dX3_sideOfSegment_4 rfl (lv_at hl 1 rfl) ?_
  refine va_iald (D := g) hx hb hK hP 1 0 rfl rfl (vp_in_nI (h3) (by omega)) dX3_sideOfSegment_5 ?_
  refine tpi_ (y := (xs tn)) (by rw [nI_clamp (by omega)]) ?_
  refine lv_i2l hx hb dX3_sideOfSegment_6 rfl ?_
  refine lv_lstore (lv' := [(5, .long ((xs tn).toInt64)), (0, .ref fa), (1, .int (nI tn)), (2, .int (nI hn)), (3, .int x1), (4, .int y1)]) hx hb dX3_sideOfSegment_7 hl (by decide) rfl (fun ls hl => ?_)
  refine lv_aload_n hx hb dX3_sideOfSegment_9 rfl (lv_at hl 1 rfl) ?_
  refine va_get (D := g) (ci := 3) (v := .ref qy) (C := RX3) (T := TX3) (N := 13) hx hb hts hiX3 hown hK hP 0 rfl rfl 4 (by decide) (hts (.fieldLink RX3 25 "ShapeRelator$Figure" "ys" "[I") (List.mem_of_getElem? (i := 2) rfl)) (fun _ h9 => h9) rfl dX3_sideOfSegment_10 ?_
  refine lv_iload_n hx hb dX3_sideOfSegment_13 rfl (lv_at hl 2 rfl) ?_
  refine va_iald (D := g) hx hb hK hP 2 0 rfl rfl (vp_in_nI (h3) (by omega)) dX3_sideOfSegment_14 ?_
  refine tpi_ (y := (ys tn)) (by rw [nI_clamp (by omega)]) ?_
  refine lv_i2l hx hb dX3_sideOfSegment_15 rfl ?_
  refine lv_lstore (lv' := [(7, .long ((ys tn).toInt64)), (5, .long ((xs tn).toInt64)), (0, .ref fa), (1, .int (nI tn)), (2, .int (nI hn)), (3, .int x1), (4, .int y1)]) hx hb dX3_sideOfSegment_16 hl (by decide) rfl (fun ls hl => ?_)
  refine lv_aload_n hx hb dX3_sideOfSegment_18 rfl (lv_at hl 2 rfl) ?_
  refine va_get (D := g) (ci := 3) (v := .ref qx) (C := RX3) (T := TX3) (N := 13) hx hb hts hiX3 hown hK hP 0 rfl rfl 3 (by decide) (hts (.fieldLink RX3 21 "ShapeRelator$Figure" "xs" "[I") (List.mem_of_getElem? (i := 1) rfl)) (fun _ h9 => h9) rfl dX3_sideOfSegment_19 ?_
  refine lv_iload_n hx hb dX3_sideOfSegment_22 rfl (lv_at hl 4 rfl) ?_
  refine va_iald (D := g) hx hb hK hP 1 0 rfl rfl (vp_in_nI (h4) (by omega)) dX3_sideOfSegment_23 ?_
  refine tpi_ (y := (xs hn)) (by rw [nI_clamp (by omega)]) ?_
  refine lv_i2l hx hb dX3_sideOfSegment_24 rfl ?_
  refine lv_lload hx hb dX3_sideOfSegment_25 (lv_at hl 1 rfl) ?_
  refine lv_lsub hx hb dX3_sideOfSegment_27 ?_
  refine lv_iload hx hb dX3_sideOfSegment_28 (lv_at hl 6 rfl) ?_
  refine lv_i2l hx hb dX3_sideOfSegment_30 rfl ?_
  refine lv_lload hx hb dX3_sideOfSegment_31 (lv_at hl 0 rfl) ?_
  refine lv_lsub hx hb dX3_sideOfSegment_33 ?_
  refine lv_lmul hx hb dX3_sideOfSegment_34 ?_
  refine lv_aload_n hx hb dX3_sideOfSegment_35 rfl (lv_at hl 2 rfl) ?_
  refine va_get (D := g) (ci := 3) (v := .ref qy) (C := RX3) (T := TX3) (N := 13) hx hb hts hiX3 hown hK hP 0 rfl rfl 4 (by decide) (hts (.fieldLink RX3 25 "ShapeRelator$Figure" "ys" "[I") (List.mem_of_getElem? (i := 2) rfl)) (fun _ h9 => h9) rfl dX3_sideOfSegment_36 ?_
  refine lv_iload_n hx hb dX3_sideOfSegment_39 rfl (lv_at hl 4 rfl) ?_
  refine va_iald (D := g) hx hb hK hP 2 0 rfl rfl (vp_in_nI (h4) (by omega)) dX3_sideOfSegment_40 ?_
  refine tpi_ (y := (ys hn)) (by rw [nI_clamp (by omega)]) ?_
  refine lv_i2l hx hb dX3_sideOfSegment_41 rfl ?_
  refine lv_lload hx hb dX3_sideOfSegment_42 (lv_at hl 0 rfl) ?_
  refine lv_lsub hx hb dX3_sideOfSegment_44 ?_
  refine lv_iload_n hx hb dX3_sideOfSegment_45 rfl (lv_at hl 5 rfl) ?_
  refine lv_i2l hx hb dX3_sideOfSegment_46 rfl ?_
  refine lv_lload hx hb dX3_sideOfSegment_47 (lv_at hl 1 rfl) ?_
  refine lv_lsub hx hb dX3_sideOfSegment_49 ?_
  refine lv_lmul hx hb dX3_sideOfSegment_50 ?_
  refine lv_lsub hx hb dX3_sideOfSegment_51 ?_
  have hP9 := hP.sub (ws' := [(fa, .inr (3, fg_ kd pn pt qx qy qs pr sc qt qh mn qm qd)), (qx, .inl (cI, cx, .inl xs)), (qy, .inl (cI, cx, .inl ys))]) [0, 1, 2] rfl
  have hD9 := hD.sub (ws' := [(fa, .inr (3, fg_ kd pn pt qx qy qs pr sc qt qh mn qm qd)), (qx, .inl (cI, cx, .inl xs)), (qy, .inl (cI, cx, .inl ys))]) [0, 1, 2] (by decide) rfl
  exact W.lret (v := (((((xs hn).toInt64) - ((xs tn).toInt64)) * (y1.toInt64 - ((ys tn).toInt64))) - ((((ys hn).toInt64) - ((ys tn).toInt64)) * (x1.toInt64 - ((xs tn).toInt64))))) hx hb hr (fun t ht hW => ⟨⟨((((xs hn).toInt64) - ((xs tn).toInt64)) * (y1.toInt64 - ((ys tn).toInt64))) - ((((ys hn).toInt64) - ((ys tn).toInt64)) * (x1.toInt64 - ((xs tn).toInt64))), (), rfl, rfl, by rw [ht]; exact hP9, va_K.moved hW.alike hK, hD9⟩, hS.F ht⟩) hS.2.2 dX3_sideOfSegment_52

theorem ikX3_isInBox_X3 : ∀ w ∈ wsX30, w ∈ wsX3_isInBox := by decide +kernel
set_option maxHeartbeats 1000000 in
set_option maxRecDepth 100000 in
theorem kX3_isInBox (l : Launch) (g : va_G) (cI cJ cZ : ClassId) (sz : Nat) (fa : Nat) (kd : Int32) (pn : Int32) (pt : Int32) (qx : Nat) (qy : Nat) (qs : Nat) (pr : Int32) (sc : Int32) (qt : Nat) (qh : Nat) (mn : Int32) (qm : Nat) (qd : Nat) (cx : Nat) (xs : Nat → Int32) (ys : Nat → Int32) (tn : Nat) (hn : Nat) (x1 : Int32) (y1 : Int32) (h2 : cx < 1000000) (h3 : tn < cx) (h4 : hn < cx) : Met l yX3_isInBox wsX3_isInBox ({ frames := 1, cells := 0, slots := 0, locals := 16 }) (pc_ g cI cJ cZ [.ref fa, .int (nI tn), .int (nI hn), .int x1, .int y1] [(fa, .inr (3, fg_ kd pn pt qx qy qs pr sc qt qh mn qm qd)), (qx, .inl (cI, cx, .inl xs)), (qy, .inl (cI, cx, .inl ys))] sz) (va_Qi (fun (r : Int32) (_ : Unit) => r = inb_ xs ys tn hn x1 y1) (fun (_ : Unit) t => wd_ g cI cJ cZ (va_A [(fa, .inr (3, fg_ kd pn pt qx qy qs pr sc qt qh mn qm qd)), (qx, .inl (cI, cx, .inl xs)), (qy, .inl (cI, cx, .inl ys))] sz) [(fa, .inr (3, fg_ kd pn pt qx qy qs pr sc qt qh mn qm qd)), (qx, .inl (cI, cx, .inl xs)), (qy, .inl (cI, cx, .inl ys))] t) (va_A [(fa, .inr (3, fg_ kd pn pt qx qy qs pr sc qt qh mn qm qd)), (qx, .inl (cI, cx, .inl xs)), (qy, .inl (cI, cx, .inl ys))] sz)) (0) (0) (va_A [(fa, .inr (3, fg_ kd pn pt qx qy qs pr sc qt qh mn qm qd)), (qx, .inl (cI, cx, .inl xs)), (qy, .inl (cI, cx, .inl ys))] sz) := by
  refine Met.ofW (cc := cX3_isInBox) (maxL := 5) (ret := (some .boolean)) (by decide) rfl ?_
  intro p e s m args below meth c s₁ B hml hv
  obtain ⟨rfl, hsz, hP, hK, hD0⟩ := hv
  have hx := B.exec
  have hb := B.bytes
  have hr := B.returns
  have hts := atoms_spec (ws := wsX3_isInBox) B.pre
  have hown : s.vm.findClass RX3 = some m.cls := findClass_of_methodNamed B.named
  have hlocks := B.notSynchronized
  subst hsz
  have hD := hD0.self (sz := s.heap.size)
  generalize hAe : va_A [(fa, .inr (3, fg_ kd pn pt qx qy qs pr sc qt qh mn qm qd)), (qx, .inl (cI, cx, .inl xs)), (qy, .inl (cI, cx, .inl ys))] s.heap.size = A at hD ⊢
  have hA : ∀ q : Nat, s.heap.size ≤ q → A q := fun q h => by rw [← hAe]; exact Or.inr h
  have hS : va_S A s.heap s.heap [] := va_S.rf
  have hP : va_P g vwCl [(fa, .inr (3, fg_ kd pn pt qx qy qs pr sc qt qh mn qm qd)), (qx, .inl (cI, cx, .inl xs)), (qy, .inl (cI, cx, .inl ys))] s.heap := hP
  have hl := lv_entry ([.ref fa, .int (nI tn), .int (nI hn), .int x1, .int y1]) (n := 5) (Nat.le_of_ble_eq_true rfl)
  rw [lg_entry_eq]
  generalize (lg_sl ([.ref fa, .int (nI tn), .int (nI hn), .int x1, .int y1]) ++ List.replicate (5 - (lg_sl ([.ref fa, .int (nI tn), .int (nI hn), .int x1, .int y1])).length) Slot.unset).toArray = ls at hl ⊢
  have hl : lv_has ls 5 [(0, .ref fa), (1, .int (nI tn)), (2, .int (nI hn)), (3, .int x1), (4, .int y1)] := hl
  have hH0 : s.heap = s.heap := rfl
  have hiX3 := ikX3_isInBox_X3
  refine lv_aload_n hx hb dX3_isInBox_0 rfl (lv_at hl 0 rfl) ?_
  refine va_get (D := g) (ci := 3) (v := .ref qx) (C := RX3) (T := TX3) (N := 13) hx hb hts hiX3 hown hK hP 0 rfl rfl 3 (by decide) (hts (.fieldLink RX3 21 "ShapeRelator$Figure" "xs" "[I") (List.mem_of_getElem? (i := 1) rfl)) (fun _ h9 => h9) rfl dX3_isInBox_1 ?_
  refine lv_iload_n hx hb dX3_isInBox_4 rfl (lv_at hl 1 rfl) ?_
  refine va_iald (D := g) hx hb hK hP 1 0 rfl rfl (vp_in_nI (h3) (by omega)) dX3_isInBox_5 ?_
  refine tpi_ (y := (xs tn)) (by rw [nI_clamp (by omega)]) ?_
  refine lv_aload_n hx hb dX3_isInBox_6 rfl (lv_at hl 0 rfl) ?_
  refine va_get (D := g) (ci := 3) (v := .ref qx) (C := RX3) (T := TX3) (N := 13) hx hb hts hiX3 hown hK hP 0 rfl rfl 3 (by decide) (hts (.fieldLink RX3 21 "ShapeRelator$Figure" "xs" "[I") (List.mem_of_getElem? (i := 1) rfl)) (fun _ h9 => h9) rfl dX3_isInBox_7 ?_
  refine lv_iload_n hx hb dX3_isInBox_10 rfl (lv_at hl 2 rfl) ?_
  refine va_iald (D := g) hx hb hK hP 1 0 rfl rfl (vp_in_nI (h4) (by omega)) dX3_isInBox_11 ?_
  refine tpi_ (y := (xs hn)) (by rw [nI_clamp (by omega)]) ?_
  refine va_mmin hx hb (hml.trans hl.1.symm) hown (hts (.methodLink RX3 100 Lib.Math.min.name) (List.mem_of_getElem? (i := 2) rfl)) (hts (.static Lib.Math.min.name) (List.mem_of_getElem? (i := 3) rfl)) (hts (.initialized "java/lang/Math") (List.mem_of_getElem? (i := 4) rfl)) (hts (.code Lib.Math.min.name Lib.Math.min.code 2 (some .int)) (List.mem_of_getElem? (i := 5) rfl)) (Nat.le_of_ble_eq_true rfl) (Nat.le_of_ble_eq_true rfl) (Nat.zero_le _) (Nat.zero_le _) dX3_isInBox_12 ?_
  refine lv_iload_n hx hb dX3_isInBox_15 rfl (lv_at hl 3 rfl) ?_
  refine lv_icmp_gt (tgt := 82) hx hb dX3_isInBox_16 (by decide) (fun c1 => ?_) (fun c1 => ?_)
  · refine lv_iconst (v := 0) hx hb dX3_isInBox_82 (by decide) ?_
    have hP9 := hP.sub (ws' := [(fa, .inr (3, fg_ kd pn pt qx qy qs pr sc qt qh mn qm qd)), (qx, .inl (cI, cx, .inl xs)), (qy, .inl (cI, cx, .inl ys))]) [0, 1, 2] rfl
    have hD9 := hD.sub (ws' := [(fa, .inr (3, fg_ kd pn pt qx qy qs pr sc qt qh mn qm qd)), (qx, .inl (cI, cx, .inl xs)), (qy, .inl (cI, cx, .inl ys))]) [0, 1, 2] (by decide) rfl
    exact W.zret (v := 0) (ty := .boolean) hx hb hr (by decide +kernel) (fun t ht hW => ⟨⟨0, (), rfl, inb1_ c1, by rw [ht]; exact hP9, va_K.moved hW.alike hK, hD9⟩, hS.F ht⟩) hS.2.2 dX3_isInBox_83
  · refine lv_iload_n hx hb dX3_isInBox_19 rfl (lv_at hl 3 rfl) ?_
    refine lv_aload_n hx hb dX3_isInBox_20 rfl (lv_at hl 0 rfl) ?_
    refine va_get (D := g) (ci := 3) (v := .ref qx) (C := RX3) (T := TX3) (N := 13) hx hb hts hiX3 hown hK hP 0 rfl rfl 3 (by decide) (hts (.fieldLink RX3 21 "ShapeRelator$Figure" "xs" "[I") (List.mem_of_getElem? (i := 1) rfl)) (fun _ h9 => h9) rfl dX3_isInBox_21 ?_
    refine lv_iload_n hx hb dX3_isInBox_24 rfl (lv_at hl 1 rfl) ?_
    refine va_iald (D := g) hx hb hK hP 1 0 rfl rfl (vp_in_nI (h3) (by omega)) dX3_isInBox_25 ?_
    refine tpi_ (y := (xs tn)) (by rw [nI_clamp (by omega)]) ?_
    refine lv_aload_n hx hb dX3_isInBox_26 rfl (lv_at hl 0 rfl) ?_
    refine va_get (D := g) (ci := 3) (v := .ref qx) (C := RX3) (T := TX3) (N := 13) hx hb hts hiX3 hown hK hP 0 rfl rfl 3 (by decide) (hts (.fieldLink RX3 21 "ShapeRelator$Figure" "xs" "[I") (List.mem_of_getElem? (i := 1) rfl)) (fun _ h9 => h9) rfl dX3_isInBox_27 ?_
    refine lv_iload_n hx hb dX3_isInBox_30 rfl (lv_at hl 2 rfl) ?_
    refine va_iald (D := g) hx hb hK hP 1 0 rfl rfl (vp_in_nI (h4) (by omega)) dX3_isInBox_31 ?_
    refine tpi_ (y := (xs hn)) (by rw [nI_clamp (by omega)]) ?_
    refine va_mmax hx hb (hml.trans hl.1.symm) hown (hts (.methodLink RX3 105 Lib.Math.max.name) (List.mem_of_getElem? (i := 6) rfl)) (hts (.static Lib.Math.max.name) (List.mem_of_getElem? (i := 7) rfl)) (hts (.initialized "java/lang/Math") (List.mem_of_getElem? (i := 4) rfl)) (hts (.code Lib.Math.max.name Lib.Math.max.code 2 (some .int)) (List.mem_of_getElem? (i := 8) rfl)) (Nat.le_of_ble_eq_true rfl) (Nat.le_of_ble_eq_true rfl) (Nat.zero_le _) (Nat.zero_le _) dX3_isInBox_32 ?_
    refine lv_icmp_gt (tgt := 82) hx hb dX3_isInBox_35 (by decide) (fun c2 => ?_) (fun c2 => ?_)
    · refine lv_iconst (v := 0) hx hb dX3_isInBox_82 (by decide) ?_
      have hP9 := hP.sub (ws' := [(fa, .inr (3, fg_ kd pn pt qx qy qs pr sc qt qh mn qm qd)), (qx, .inl (cI, cx, .inl xs)), (qy, .inl (cI, cx, .inl ys))]) [0, 1, 2] rfl
      have hD9 := hD.sub (ws' := [(fa, .inr (3, fg_ kd pn pt qx qy qs pr sc qt qh mn qm qd)), (qx, .inl (cI, cx, .inl xs)), (qy, .inl (cI, cx, .inl ys))]) [0, 1, 2] (by decide) rfl
      exact W.zret (v := 0) (ty := .boolean) hx hb hr (by decide +kernel) (fun t ht hW => ⟨⟨0, (), rfl, inb2_ c2, by rw [ht]; exact hP9, va_K.moved hW.alike hK, hD9⟩, hS.F ht⟩) hS.2.2 dX3_isInBox_83
    · refine lv_aload_n hx hb dX3_isInBox_38 rfl (lv_at hl 0 rfl) ?_
      refine va_get (D := g) (ci := 3) (v := .ref qy) (C := RX3) (T := TX3) (N := 13) hx hb hts hiX3 hown hK hP 0 rfl rfl 4 (by decide) (hts (.fieldLink RX3 25 "ShapeRelator$Figure" "ys" "[I") (List.mem_of_getElem? (i := 9) rfl)) (fun _ h9 => h9) rfl dX3_isInBox_39 ?_
      refine lv_iload_n hx hb dX3_isInBox_42 rfl (lv_at hl 1 rfl) ?_
      refine va_iald (D := g) hx hb hK hP 2 0 rfl rfl (vp_in_nI (h3) (by omega)) dX3_isInBox_43 ?_
      refine tpi_ (y := (ys tn)) (by rw [nI_clamp (by omega)]) ?_
      refine lv_aload_n hx hb dX3_isInBox_44 rfl (lv_at hl 0 rfl) ?_
      refine va_get (D := g) (ci := 3) (v := .ref qy) (C := RX3) (T := TX3) (N := 13) hx hb hts hiX3 hown hK hP 0 rfl rfl 4 (by decide) (hts (.fieldLink RX3 25 "ShapeRelator$Figure" "ys" "[I") (List.mem_of_getElem? (i := 9) rfl)) (fun _ h9 => h9) rfl dX3_isInBox_45 ?_
      refine lv_iload_n hx hb dX3_isInBox_48 rfl (lv_at hl 2 rfl) ?_
      refine va_iald (D := g) hx hb hK hP 2 0 rfl rfl (vp_in_nI (h4) (by omega)) dX3_isInBox_49 ?_
      refine tpi_ (y := (ys hn)) (by rw [nI_clamp (by omega)]) ?_
      refine va_mmin hx hb (hml.trans hl.1.symm) hown (hts (.methodLink RX3 100 Lib.Math.min.name) (List.mem_of_getElem? (i := 2) rfl)) (hts (.static Lib.Math.min.name) (List.mem_of_getElem? (i := 3) rfl)) (hts (.initialized "java/lang/Math") (List.mem_of_getElem? (i := 4) rfl)) (hts (.code Lib.Math.min.name Lib.Math.min.code 2 (some .int)) (List.mem_of_getElem? (i := 5) rfl)) (Nat.le_of_ble_eq_true rfl) (Nat.le_of_ble_eq_true rfl) (Nat.zero_le _) (Nat.zero_le _) dX3_isInBox_50 ?_
      refine lv_iload hx hb dX3_isInBox_53 (lv_at hl 4 rfl) ?_
      refine lv_icmp_gt (tgt := 82) hx hb dX3_isInBox_55 (by decide) (fun c3 => ?_) (fun c3 => ?_)
      · refine lv_iconst (v := 0) hx hb dX3_isInBox_82 (by decide) ?_
        have hP9 := hP.sub (ws' := [(fa, .inr (3, fg_ kd pn pt qx qy qs pr sc qt qh mn qm qd)), (qx, .inl (cI, cx, .inl xs)), (qy, .inl (cI, cx, .inl ys))]) [0, 1, 2] rfl
        have hD9 := hD.sub (ws' := [(fa, .inr (3, fg_ kd pn pt qx qy qs pr sc qt qh mn qm qd)), (qx, .inl (cI, cx, .inl xs)), (qy, .inl (cI, cx, .inl ys))]) [0, 1, 2] (by decide) rfl
        exact W.zret (v := 0) (ty := .boolean) hx hb hr (by decide +kernel) (fun t ht hW => ⟨⟨0, (), rfl, inb3_ c3, by rw [ht]; exact hP9, va_K.moved hW.alike hK, hD9⟩, hS.F ht⟩) hS.2.2 dX3_isInBox_83
      · refine lv_iload hx hb dX3_isInBox_58 (lv_at hl 4 rfl) ?_
        refine lv_aload_n hx hb dX3_isInBox_60 rfl (lv_at hl 0 rfl) ?_
        refine va_get (D := g) (ci := 3) (v := .ref qy) (C := RX3) (T := TX3) (N := 13) hx hb hts hiX3 hown hK hP 0 rfl rfl 4 (by decide) (hts (.fieldLink RX3 25 "ShapeRelator$Figure" "ys" "[I") (List.mem_of_getElem? (i := 9) rfl)) (fun _ h9 => h9) rfl dX3_isInBox_61 ?_
        refine lv_iload_n hx hb dX3_isInBox_64 rfl (lv_at hl 1 rfl) ?_
        refine va_iald (D := g) hx hb hK hP 2 0 rfl rfl (vp_in_nI (h3) (by omega)) dX3_isInBox_65 ?_
        refine tpi_ (y := (ys tn)) (by rw [nI_clamp (by omega)]) ?_
        refine lv_aload_n hx hb dX3_isInBox_66 rfl (lv_at hl 0 rfl) ?_
        refine va_get (D := g) (ci := 3) (v := .ref qy) (C := RX3) (T := TX3) (N := 13) hx hb hts hiX3 hown hK hP 0 rfl rfl 4 (by decide) (hts (.fieldLink RX3 25 "ShapeRelator$Figure" "ys" "[I") (List.mem_of_getElem? (i := 9) rfl)) (fun _ h9 => h9) rfl dX3_isInBox_67 ?_
        refine lv_iload_n hx hb dX3_isInBox_70 rfl (lv_at hl 2 rfl) ?_
        refine va_iald (D := g) hx hb hK hP 2 0 rfl rfl (vp_in_nI (h4) (by omega)) dX3_isInBox_71 ?_
        refine tpi_ (y := (ys hn)) (by rw [nI_clamp (by omega)]) ?_
        refine va_mmax hx hb (hml.trans hl.1.symm) hown (hts (.methodLink RX3 105 Lib.Math.max.name) (List.mem_of_getElem? (i := 6) rfl)) (hts (.static Lib.Math.max.name) (List.mem_of_getElem? (i := 7) rfl)) (hts (.initialized "java/lang/Math") (List.mem_of_getElem? (i := 4) rfl)) (hts (.code Lib.Math.max.name Lib.Math.max.code 2 (some .int)) (List.mem_of_getElem? (i := 8) rfl)) (Nat.le_of_ble_eq_true rfl) (Nat.le_of_ble_eq_true rfl) (Nat.zero_le _) (Nat.zero_le _) dX3_isInBox_72 ?_
        refine lv_icmp_gt (tgt := 82) hx hb dX3_isInBox_75 (by decide) (fun c4 => ?_) (fun c4 => ?_)
        · refine lv_iconst (v := 0) hx hb dX3_isInBox_82 (by decide) ?_
          have hP9 := hP.sub (ws' := [(fa, .inr (3, fg_ kd pn pt qx qy qs pr sc qt qh mn qm qd)), (qx, .inl (cI, cx, .inl xs)), (qy, .inl (cI, cx, .inl ys))]) [0, 1, 2] rfl
          have hD9 := hD.sub (ws' := [(fa, .inr (3, fg_ kd pn pt qx qy qs pr sc qt qh mn qm qd)), (qx, .inl (cI, cx, .inl xs)), (qy, .inl (cI, cx, .inl ys))]) [0, 1, 2] (by decide) rfl
          exact W.zret (v := 0) (ty := .boolean) hx hb hr (by decide +kernel) (fun t ht hW => ⟨⟨0, (), rfl, inb4_ c4, by rw [ht]; exact hP9, va_K.moved hW.alike hK, hD9⟩, hS.F ht⟩) hS.2.2 dX3_isInBox_83
        · refine lv_iconst (v := 1) hx hb dX3_isInBox_78 (by decide) ?_
          refine lv_goto (tgt := 83) hx hb dX3_isInBox_79 (by decide) ?_
          have hP9 := hP.sub (ws' := [(fa, .inr (3, fg_ kd pn pt qx qy qs pr sc qt qh mn qm qd)), (qx, .inl (cI, cx, .inl xs)), (qy, .inl (cI, cx, .inl ys))]) [0, 1, 2] rfl
          have hD9 := hD.sub (ws' := [(fa, .inr (3, fg_ kd pn pt qx qy qs pr sc qt qh mn qm qd)), (qx, .inl (cI, cx, .inl xs)), (qy, .inl (cI, cx, .inl ys))]) [0, 1, 2] (by decide) rfl
          exact W.zret (v := 1) (ty := .boolean) hx hb hr (by decide +kernel) (fun t ht hW => ⟨⟨1, (), rfl, inb5_ c1 c2 c3 c4, by rw [ht]; exact hP9, va_K.moved hW.alike hK, hD9⟩, hS.F ht⟩) hS.2.2 dX3_isInBox_83

theorem ikX3_addMark_X3 : ∀ w ∈ wsX30, w ∈ wsX3_addMark := by decide +kernel
set_option maxHeartbeats 1000000 in
set_option maxRecDepth 100000 in
theorem kX3_addMark (l : Launch) (g : va_G) (cI cJ cZ : ClassId) (sz : Nat) (fa : Nat) (kd : Int32) (pn : Int32) (pt : Int32) (qx : Nat) (qy : Nat) (qs : Nat) (pr : Int32) (sc : Int32) (qt : Nat) (qh : Nat) (qm : Nat) (qd : Nat) (ct : Nat) (ma : Nat → Int32) (ml : List Nat) (p1 : Nat) (h1 : ct < 1000000) (h3 : ml.length < ct) (h4 : al_ ma ml) : Met l yX3_addMark wsX3_addMark ({ frames := 0, cells := 0, slots := 0, locals := 0 }) (pc_ g cI cJ cZ [.ref fa, .int (nI p1)] [(fa, .inr (3, fg_ kd pn pt qx qy qs pr sc qt qh (nI ml.length) qm qd)), (qm, .inl (cI, ct, .inl ma))] sz) (va_Qv (fun (ma2 : (Nat → Int32)) => al_ ma2 (ml ++ [p1])) (fun (ma2 : (Nat → Int32)) t => wd_ g cI cJ cZ (va_A [(fa, .inr (3, fg_ kd pn pt qx qy qs pr sc qt qh (nI ml.length) qm qd)), (qm, .inl (cI, ct, .inl ma))] sz) [(fa, .inr (3, fg_ kd pn pt qx qy qs pr sc qt qh (nI (ml ++ [p1]).length) qm qd)), (qm, .inl (cI, ct, .inl ma2))] t) (va_A [(fa, .inr (3, fg_ kd pn pt qx qy qs pr sc qt qh (nI ml.length) qm qd)), (qm, .inl (cI, ct, .inl ma))] sz)) (0) (0) (va_A [(fa, .inr (3, fg_ kd pn pt qx qy qs pr sc qt qh (nI ml.length) qm qd)), (qm, .inl (cI, ct, .inl ma))] sz) := by
  refine Met.ofW (cc := cX3_addMark) (maxL := 2) (ret := none) (by decide) rfl ?_
  intro p e s m args below meth c s₁ B hml hv
  obtain ⟨rfl, hsz, hP, hK, hD0⟩ := hv
  have hx := B.exec
  have hb := B.bytes
  have hr := B.returns
  have hts := atoms_spec (ws := wsX3_addMark) B.pre
  have hown : s.vm.findClass RX3 = some m.cls := findClass_of_methodNamed B.named
  have hlocks := B.notSynchronized
  subst hsz
  have hD := hD0.self (sz := s.heap.size)
  generalize hAe : va_A [(fa, .inr (3, fg_ kd pn pt qx qy qs pr sc qt qh (nI ml.length) qm qd)), (qm, .inl (cI, ct, .inl ma))] s.heap.size = A at hD ⊢
  have hA : ∀ q : Nat, s.heap.size ≤ q → A q := fun q h => by rw [← hAe]; exact Or.inr h
  have hS : va_S A s.heap s.heap [] := va_S.rf
  have hP : va_P g vwCl [(fa, .inr (3, fg_ kd pn pt qx qy qs pr sc qt qh (nI ml.length) qm qd)), (qm, .inl (cI, ct, .inl ma))] s.heap := hP
  have hl := lv_entry ([.ref fa, .int (nI p1)]) (n := 2) (Nat.le_of_ble_eq_true rfl)
  rw [lg_entry_eq]
  generalize (lg_sl ([.ref fa, .int (nI p1)]) ++ List.replicate (2 - (lg_sl ([.ref fa, .int (nI p1)])).length) Slot.unset).toArray = ls at hl ⊢
  have hl : lv_has ls 2 [(0, .ref fa), (1, .int (nI p1))] := hl
  have hH0 : s.heap = s.heap := rfl
  have hiX3 := ikX3_addMark_X3
  refine lv_aload_n hx hb dX3_addMark_0 rfl (lv_at hl 0 rfl) ?_
  refine va_get (D := g) (ci := 3) (v := .ref qm) (C := RX3) (T := TX3) (N := 13) hx hb hts hiX3 hown hK hP 0 rfl rfl 11 (by decide) (hts (.fieldLink RX3 47 "ShapeRelator$Figure" "marks" "[I") (List.mem_of_getElem? (i := 1) rfl)) (fun _ h9 => h9) rfl dX3_addMark_1 ?_
  refine lv_aload_n hx hb dX3_addMark_4 rfl (lv_at hl 0 rfl) ?_
  refine va_get (D := g) (ci := 3) (v := .int (nI ml.length)) (C := RX3) (T := TX3) (N := 13) hx hb hts hiX3 hown hK hP 0 rfl rfl 10 (by decide) (hts (.fieldLink RX3 44 "ShapeRelator$Figure" "markCount" "I") (List.mem_of_getElem? (i := 2) rfl)) (fun _ h9 => h9) rfl dX3_addMark_5 ?_
  refine lv_iload_n hx hb dX3_addMark_8 rfl (lv_at hl 1 rfl) ?_
  refine va_iast (D := g) hx hb hK hP hD hS 1 0 rfl rfl (vp_in_nI h3 (by omega)) dX3_addMark_9 (fun H locs hP hD hS => ?_)
  rw [nI_clamp (show ml.length < 2 ^ 31 by omega)] at hP hD
  have hP : va_P g vwCl [(fa, .inr (3, fg_ kd pn pt qx qy qs pr sc qt qh (nI ml.length) qm qd)), (qm, .inl (cI, ct, .inl (upd ma ml.length (nI p1))))] H := hP
  have hD : va_D A [(fa, .inr (3, fg_ kd pn pt qx qy qs pr sc qt qh (nI ml.length) qm qd)), (qm, .inl (cI, ct, .inl (upd ma ml.length (nI p1))))] := hD
  refine lv_aload_n hx hb dX3_addMark_10 rfl (lv_at hl 0 rfl) ?_
  refine lv_dup hx hb dX3_addMark_11 rfl ?_
  refine va_get (D := g) (ci := 3) (v := .int (nI ml.length)) (C := RX3) (T := TX3) (N := 13) hx hb hts hiX3 hown hK hP 0 rfl rfl 10 (by decide) (hts (.fieldLink RX3 44 "ShapeRelator$Figure" "markCount" "I") (List.mem_of_getElem? (i := 2) rfl)) (fun _ h9 => h9) rfl dX3_addMark_12 ?_
  refine lv_iconst (v := 1) hx hb dX3_addMark_15 (by decide) ?_
  refine lv_iadd hx hb dX3_addMark_16 ?_
  refine tpi_ (y := (nI (ml ++ [p1]).length)) al_1 ?_
  refine va_put (D := g) (ci := 3) (v := .int (nI (ml ++ [p1]).length)) (ty := .int) (C := RX3) (T := TX3) (N := 13) hx hb hts hiX3 tyX3 tyX3_ok nmX3 hown hK hP hD hS 0 rfl rfl 10 (by decide) (hts (.fieldLink RX3 44 "ShapeRelator$Figure" "markCount" "I") (List.mem_of_getElem? (i := 2) rfl)) (fun _ h9 => h9) rfl (by decide +kernel) rfl rfl (Nat.le_of_ble_eq_true rfl) dX3_addMark_17 (fun H locs hP hD hS => ?_)
  have hP : va_P g vwCl [(fa, .inr (3, fg_ kd pn pt qx qy qs pr sc qt qh (nI (ml ++ [p1]).length) qm qd)), (qm, .inl (cI, ct, .inl (upd ma ml.length (nI p1))))] H := hP
  have hD : va_D A [(fa, .inr (3, fg_ kd pn pt qx qy qs pr sc qt qh (nI (ml ++ [p1]).length) qm qd)), (qm, .inl (cI, ct, .inl (upd ma ml.length (nI p1))))] := hD
  have hP9 := hP.sub (ws' := [(fa, .inr (3, fg_ kd pn pt qx qy qs pr sc qt qh (nI (ml ++ [p1]).length) qm qd)), (qm, .inl (cI, ct, .inl (upd ma ml.length (nI p1))))]) [0, 1] rfl
  have hD9 := hD.sub (ws' := [(fa, .inr (3, fg_ kd pn pt qx qy qs pr sc qt qh (nI (ml ++ [p1]).length) qm qd)), (qm, .inl (cI, ct, .inl (upd ma ml.length (nI p1))))]) [0, 1] (by decide) rfl
  exact W.vret hx hb hr (fun t ht hW => ⟨⟨upd ma ml.length (nI p1), rfl, al_p h4, by rw [ht]; exact hP9, va_K.moved hW.alike hK, hD9⟩, hS.F ht⟩) hS.2.2 dX3_addMark_20

theorem ikX3_markAt_X3 : ∀ w ∈ wsX30, w ∈ wsX3_markAt := by decide +kernel
set_option maxHeartbeats 1000000 in
set_option maxRecDepth 100000 in
theorem kX3_markAt (l : Launch) (g : va_G) (cI cJ cZ : ClassId) (sz : Nat) (fa : Nat) (kd : Int32) (pn : Int32) (pt : Int32) (qx : Nat) (qy : Nat) (qs : Nat) (pr : Int32) (sc : Int32) (qt : Nat) (qh : Nat) (qm : Nat) (qd : Nat) (cx : Nat) (xs : Nat → Int32) (ys : Nat → Int32) (ct : Nat) (ma : Nat → Int32) (ml : List Nat) (x1 : Int32) (y1 : Int32) (h1 : ct < 1000000) (h2 : cx < 1000000) (h3 : ml.length ≤ ct) (h4 : al_ ma ml) (h5 : ∀ q ∈ ml, q < cx) : Met l yX3_markAt wsX3_markAt ({ frames := 0, cells := 0, slots := 0, locals := 0 }) (pc_ g cI cJ cZ [.ref fa, .int x1, .int y1] [(fa, .inr (3, fg_ kd pn pt qx qy qs pr sc qt qh (nI ml.length) qm qd)), (qx, .inl (cI, cx, .inl xs)), (qy, .inl (cI, cx, .inl ys)), (qm, .inl (cI, ct, .inl ma))] sz) (va_Qi (fun (r : Int32) (_ : Unit) => r = mfi_ xs ys x1 y1 ml 0) (fun (_ : Unit) t => wd_ g cI cJ cZ (va_A [(fa, .inr (3, fg_ kd pn pt qx qy qs pr sc qt qh (nI ml.length) qm qd)), (qx, .inl (cI, cx, .inl xs)), (qy, .inl (cI, cx, .inl ys)), (qm, .inl (cI, ct, .inl ma))] sz) [(fa, .inr (3, fg_ kd pn pt qx qy qs pr sc qt qh (nI ml.length) qm qd)), (qx, .inl (cI, cx, .inl xs)), (qy, .inl (cI, cx, .inl ys)), (qm, .inl (cI, ct, .inl ma))] t) (va_A [(fa, .inr (3, fg_ kd pn pt qx qy qs pr sc qt qh (nI ml.length) qm qd)), (qx, .inl (cI, cx, .inl xs)), (qy, .inl (cI, cx, .inl ys)), (qm, .inl (cI, ct, .inl ma))] sz)) (0) (0) (va_A [(fa, .inr (3, fg_ kd pn pt qx qy qs pr sc qt qh (nI ml.length) qm qd)), (qx, .inl (cI, cx, .inl xs)), (qy, .inl (cI, cx, .inl ys)), (qm, .inl (cI, ct, .inl ma))] sz) := by
  refine Met.ofW (cc := cX3_markAt) (maxL := 5) (ret := (some .int)) (by decide) rfl ?_
  intro p e s m args below meth c s₁ B hml hv
  obtain ⟨rfl, hsz, hP, hK, hD0⟩ := hv
  have hx := B.exec
  have hb := B.bytes
  have hr := B.returns
  have hts := atoms_spec (ws := wsX3_markAt) B.pre
  have hown : s.vm.findClass RX3 = some m.cls := findClass_of_methodNamed B.named
  have hlocks := B.notSynchronized
  subst hsz
  have hD := hD0.self (sz := s.heap.size)
  generalize hAe : va_A [(fa, .inr (3, fg_ kd pn pt qx qy qs pr sc qt qh (nI ml.length) qm qd)), (qx, .inl (cI, cx, .inl xs)), (qy, .inl (cI, cx, .inl ys)), (qm, .inl (cI, ct, .inl ma))] s.heap.size = A at hD ⊢
  have hA : ∀ q : Nat, s.heap.size ≤ q → A q := fun q h => by rw [← hAe]; exact Or.inr h
  have hS : va_S A s.heap s.heap [] := va_S.rf
  have hP : va_P g vwCl [(fa, .inr (3, fg_ kd pn pt qx qy qs pr sc qt qh (nI ml.length) qm qd)), (qx, .inl (cI, cx, .inl xs)), (qy, .inl (cI, cx, .inl ys)), (qm, .inl (cI, ct, .inl ma))] s.heap := hP
  have hl := lv_entry ([.ref fa, .int x1, .int y1]) (n := 5) (Nat.le_of_ble_eq_true rfl)
  rw [lg_entry_eq]
  generalize (lg_sl ([.ref fa, .int x1, .int y1]) ++ List.replicate (5 - (lg_sl ([.ref fa, .int x1, .int y1])).length) Slot.unset).toArray = ls at hl ⊢
  have hl : lv_has ls 5 [(0, .ref fa), (1, .int x1), (2, .int y1)] := hl
  have hH0 : s.heap = s.heap := rfl
  have hiX3 := ikX3_markAt_X3
  refine lv_iconst (v := 0) hx hb dX3_markAt_0 (by decide) ?_
  refine lv_istore_n (lv' := [(3, .int 0), (0, .ref fa), (1, .int x1), (2, .int y1)]) hx hb dX3_markAt_1 rfl hl (by decide) rfl (fun ls hl => ?_)
  refine lpW (σ := Nat) (fun i => ml.length - i) (fun i => 0) (fun i => 0) (fun i H locs ls => (i ≤ ml.length ∧ mfi_ xs ys x1 y1 ml 0 = mfi_ xs ys x1 y1 (ml.drop i) i) ∧ va_P g vwCl [(fa, .inr (3, fg_ kd pn pt qx qy qs pr sc qt qh (nI ml.length) qm qd)), (qx, .inl (cI, cx, .inl xs)), (qy, .inl (cI, cx, .inl ys)), (qm, .inl (cI, ct, .inl ma))] H ∧ va_D A [(fa, .inr (3, fg_ kd pn pt qx qy qs pr sc qt qh (nI ml.length) qm qd)), (qx, .inl (cI, cx, .inl xs)), (qy, .inl (cI, cx, .inl ys)), (qm, .inl (cI, ct, .inl ma))] ∧ va_S A s.heap H locs ∧ lv_has ls 5 [(3, .int (nI i)), (0, .ref fa), (1, .int x1), (2, .int y1)]) (fun x ih H locs ls hI => ?_) 0 rfl rfl ⟨⟨Nat.zero_le _, rfl⟩, hP, hD, hS, (lv_sub hl [0, 1, 2, 3] rfl)⟩
  obtain ⟨i, rfl⟩ : ∃ z, z = x := ⟨_, rfl⟩
  obtain ⟨hi, hP, hD, hS, hl⟩ := hI
  have hP : va_P g vwCl [(fa, .inr (3, fg_ kd pn pt qx qy qs pr sc qt qh (nI ml.length) qm qd)), (qx, .inl (cI, cx, .inl xs)), (qy, .inl (cI, cx, .inl ys)), (qm, .inl (cI, ct, .inl ma))] H := hP
  have hD : va_D A [(fa, .inr (3, fg_ kd pn pt qx qy qs pr sc qt qh (nI ml.length) qm qd)), (qx, .inl (cI, cx, .inl xs)), (qy, .inl (cI, cx, .inl ys)), (qm, .inl (cI, ct, .inl ma))] := hD
  have hl : lv_has ls 5 [(3, .int (nI i)), (0, .ref fa), (1, .int x1), (2, .int y1)] := hl
  refine lv_iload_n hx hb dX3_markAt_2 rfl (lv_at hl 0 rfl) ?_
  refine lv_aload_n hx hb dX3_markAt_3 rfl (lv_at hl 1 rfl) ?_
  refine va_get (D := g) (ci := 3) (v := .int (nI ml.length)) (C := RX3) (T := TX3) (N := 13) hx hb hts hiX3 hown hK hP 0 rfl rfl 10 (by decide) (hts (.fieldLink RX3 44 "ShapeRelator$Figure" "markCount" "I") (List.mem_of_getElem? (i := 1) rfl)) (fun _ h9 => h9) rfl dX3_markAt_4 ?_
  refine lv_icmp_ge (tgt := 48) hx hb dX3_markAt_7 (by decide) (fun c1 => ?_) (fun c1 => ?_)
  · have e1 : i = ml.length := Nat.le_antisymm hi.1 (i_ge c1 (by omega) (by omega))
    refine lv_iconst (v := (-1)) hx hb dX3_markAt_48 (by decide) ?_
    have hP9 := hP.sub (ws' := [(fa, .inr (3, fg_ kd pn pt qx qy qs pr sc qt qh (nI ml.length) qm qd)), (qx, .inl (cI, cx, .inl xs)), (qy, .inl (cI, cx, .inl ys)), (qm, .inl (cI, ct, .inl ma))]) [0, 1, 2, 3] rfl
    have hD9 := hD.sub (ws' := [(fa, .inr (3, fg_ kd pn pt qx qy qs pr sc qt qh (nI ml.length) qm qd)), (qx, .inl (cI, cx, .inl xs)), (qy, .inl (cI, cx, .inl ys)), (qm, .inl (cI, ct, .inl ma))]) [0, 1, 2, 3] (by decide) rfl
    exact W.iret (v := (-1)) hx hb hr (fun t ht hW => ⟨⟨(-1), (), rfl, by rw [hi.2, e1, List.drop_length]; rfl, by rw [ht]; exact hP9, va_K.moved hW.alike hK, hD9⟩, hS.F ht⟩) hS.2.2 dX3_markAt_49
  · have e1 : i < ml.length := i_nge c1 (by omega) (by omega)
    have e2 := mfi_s (xs := xs) (ys := ys) (x := x1) (y := y1) e1
    have e3 : ml.getD i 0 < cx := h5 _ (al_m e1)
    have hi0 := hi.1
    refine lv_aload_n hx hb dX3_markAt_10 rfl (lv_at hl 1 rfl) ?_
    refine va_get (D := g) (ci := 3) (v := .ref qm) (C := RX3) (T := TX3) (N := 13) hx hb hts hiX3 hown hK hP 0 rfl rfl 11 (by decide) (hts (.fieldLink RX3 47 "ShapeRelator$Figure" "marks" "[I") (List.mem_of_getElem? (i := 2) rfl)) (fun _ h9 => h9) rfl dX3_markAt_11 ?_
    refine lv_iload_n hx hb dX3_markAt_14 rfl (lv_at hl 0 rfl) ?_
    refine va_iald (D := g) hx hb hK hP 3 0 rfl rfl (vp_in_nI (show i < ct by omega) (by omega)) dX3_markAt_15 ?_
    refine tpi_ (y := (nI (ml.getD i 0))) (by rw [nI_clamp (by omega), h4 i e1]) ?_
    refine lv_istore (lv' := [(4, .int (nI (ml.getD i 0))), (3, .int (nI i)), (0, .ref fa), (1, .int x1), (2, .int y1)]) hx hb dX3_markAt_16 hl (by decide) rfl (fun ls hl => ?_)
    refine lv_aload_n hx hb dX3_markAt_18 rfl (lv_at hl 2 rfl) ?_
    refine va_get (D := g) (ci := 3) (v := .ref qx) (C := RX3) (T := TX3) (N := 13) hx hb hts hiX3 hown hK hP 0 rfl rfl 3 (by decide) (hts (.fieldLink RX3 21 "ShapeRelator$Figure" "xs" "[I") (List.mem_of_getElem? (i := 3) rfl)) (fun _ h9 => h9) rfl dX3_markAt_19 ?_
    refine lv_iload hx hb dX3_markAt_22 (lv_at hl 0 rfl) ?_
    refine va_iald (D := g) hx hb hK hP 1 0 rfl rfl (vp_in_nI (e3) (by omega)) dX3_markAt_24 ?_
    refine tpi_ (y := (xs (ml.getD i 0))) (by rw [nI_clamp (by omega)]) ?_
    refine lv_iload_n hx hb dX3_markAt_25 rfl (lv_at hl 3 rfl) ?_
    refine lv_icmp_ne (tgt := 42) hx hb dX3_markAt_26 (by decide) (fun c2 => ?_) (fun c2 => ?_)
    · refine lv_iinc (v := (nI (i + 1))) (lv' := [(3, .int (nI (i + 1))), (4, .int (nI (ml.getD i 0))), (0, .ref fa), (1, .int x1), (2, .int y1)]) hx hb dX3_markAt_42 hl (k := 1) rfl (nI_1 i) (by decide) rfl (fun ls hl => ?_)
      refine lv_goto (tgt := 2) hx hb dX3_markAt_45 (by decide) ?_
      exact ih (i + 1) (by show ml.length - (i + 1) < ml.length - i; omega) H locs ls ⟨⟨e1, by rw [hi.2, e2, if_neg (fun h => c2 h.1)]⟩, hP, hD, hS, (lv_sub hl [0, 2, 3, 4] rfl)⟩
    · refine lv_aload_n hx hb dX3_markAt_29 rfl (lv_at hl 2 rfl) ?_
      refine va_get (D := g) (ci := 3) (v := .ref qy) (C := RX3) (T := TX3) (N := 13) hx hb hts hiX3 hown hK hP 0 rfl rfl 4 (by decide) (hts (.fieldLink RX3 25 "ShapeRelator$Figure" "ys" "[I") (List.mem_of_getElem? (i := 4) rfl)) (fun _ h9 => h9) rfl dX3_markAt_30 ?_
      refine lv_iload hx hb dX3_markAt_33 (lv_at hl 0 rfl) ?_
      refine va_iald (D := g) hx hb hK hP 2 0 rfl rfl (vp_in_nI (e3) (by omega)) dX3_markAt_35 ?_
      refine tpi_ (y := (ys (ml.getD i 0))) (by rw [nI_clamp (by omega)]) ?_
      refine lv_iload_n hx hb dX3_markAt_36 rfl (lv_at hl 4 rfl) ?_
      refine lv_icmp_ne (tgt := 42) hx hb dX3_markAt_37 (by decide) (fun c3 => ?_) (fun c3 => ?_)
      · refine lv_iinc (v := (nI (i + 1))) (lv' := [(3, .int (nI (i + 1))), (4, .int (nI (ml.getD i 0))), (0, .ref fa), (1, .int x1), (2, .int y1)]) hx hb dX3_markAt_42 hl (k := 1) rfl (nI_1 i) (by decide) rfl (fun ls hl => ?_)
        refine lv_goto (tgt := 2) hx hb dX3_markAt_45 (by decide) ?_
        exact ih (i + 1) (by show ml.length - (i + 1) < ml.length - i; omega) H locs ls ⟨⟨e1, by rw [hi.2, e2, if_neg (fun h => c3 h.2)]⟩, hP, hD, hS, (lv_sub hl [0, 2, 3, 4] rfl)⟩
      · refine lv_iload_n hx hb dX3_markAt_40 rfl (lv_at hl 1 rfl) ?_
        have hP9 := hP.sub (ws' := [(fa, .inr (3, fg_ kd pn pt qx qy qs pr sc qt qh (nI ml.length) qm qd)), (qx, .inl (cI, cx, .inl xs)), (qy, .inl (cI, cx, .inl ys)), (qm, .inl (cI, ct, .inl ma))]) [0, 1, 2, 3] rfl
        have hD9 := hD.sub (ws' := [(fa, .inr (3, fg_ kd pn pt qx qy qs pr sc qt qh (nI ml.length) qm qd)), (qx, .inl (cI, cx, .inl xs)), (qy, .inl (cI, cx, .inl ys)), (qm, .inl (cI, ct, .inl ma))]) [0, 1, 2, 3] (by decide) rfl
        exact W.iret (v := (nI i)) hx hb hr (fun t ht hW => ⟨⟨nI i, (), rfl, by rw [hi.2, e2, if_pos ⟨c2, c3⟩], by rw [ht]; exact hP9, va_K.moved hW.alike hK, hD9⟩, hS.F ht⟩) hS.2.2 dX3_markAt_41

theorem ikX3_turnMark_X3 : ∀ w ∈ wsX30, w ∈ wsX3_turnMark := by decide +kernel
set_option maxHeartbeats 1000000 in
set_option maxRecDepth 100000 in
theorem kX3_turnMark (l : Launch) (g : va_G) (cI cJ cZ : ClassId) (sz : Nat) (fa : Nat) (kd : Int32) (pn : Int32) (pt : Int32) (qx : Nat) (qy : Nat) (qs : Nat) (pr : Int32) (sc : Int32) (qt : Nat) (qh : Nat) (qm : Nat) (qd : Nat) (cx : Nat) (xs : Nat → Int32) (ys : Nat → Int32) (ct : Nat) (ma : Nat → Int32) (ml : List Nat) (p1 : Nat) (h1 : ct < 1000000) (h2 : cx < 1000000) (h3 : ml.length ≤ ct) (h4 : al_ ma ml) (h5 : ∀ q ∈ ml, q < cx) (h6 : p1 < cx) (h7 : mfi_ xs ys (xs p1) (ys p1) ml 0 = -1 → ml.length < ct) : Met l yX3_turnMark wsX3_turnMark ({ frames := 1, cells := 0, slots := 0, locals := 24 }) (pc_ g cI cJ cZ [.ref fa, .int (nI p1)] [(fa, .inr (3, fg_ kd pn pt qx qy qs pr sc qt qh (nI ml.length) qm qd)), (qx, .inl (cI, cx, .inl xs)), (qy, .inl (cI, cx, .inl ys)), (qm, .inl (cI, ct, .inl ma))] sz) (va_Qv (fun (ma2 : (Nat → Int32)) => al_ ma2 (trn_ xs ys ml p1)) (fun (ma2 : (Nat → Int32)) t => wd_ g cI cJ cZ (va_A [(fa, .inr (3, fg_ kd pn pt qx qy qs pr sc qt qh (nI ml.length) qm qd)), (qx, .inl (cI, cx, .inl xs)), (qy, .inl (cI, cx, .inl ys)), (qm, .inl (cI, ct, .inl ma))] sz) [(fa, .inr (3, fg_ kd pn pt qx qy qs pr sc qt qh (nI (trn_ xs ys ml p1).length) qm qd)), (qx, .inl (cI, cx, .inl xs)), (qy, .inl (cI, cx, .inl ys)), (qm, .inl (cI, ct, .inl ma2))] t) (va_A [(fa, .inr (3, fg_ kd pn pt qx qy qs pr sc qt qh (nI ml.length) qm qd)), (qx, .inl (cI, cx, .inl xs)), (qy, .inl (cI, cx, .inl ys)), (qm, .inl (cI, ct, .inl ma))] sz)) (0) (0) (va_A [(fa, .inr (3, fg_ kd pn pt qx qy qs pr sc qt qh (nI ml.length) qm qd)), (qx, .inl (cI, cx, .inl xs)), (qy, .inl (cI, cx, .inl ys)), (qm, .inl (cI, ct, .inl ma))] sz) := by
  refine Met.ofW (cc := cX3_turnMark) (maxL := 3) (ret := none) (by decide) rfl ?_
  intro p e s m args below meth c s₁ B hml hv
  obtain ⟨rfl, hsz, hP, hK, hD0⟩ := hv
  have hx := B.exec
  have hb := B.bytes
  have hr := B.returns
  have hts := atoms_spec (ws := wsX3_turnMark) B.pre
  have hown : s.vm.findClass RX3 = some m.cls := findClass_of_methodNamed B.named
  have hlocks := B.notSynchronized
  subst hsz
  have hD := hD0.self (sz := s.heap.size)
  generalize hAe : va_A [(fa, .inr (3, fg_ kd pn pt qx qy qs pr sc qt qh (nI ml.length) qm qd)), (qx, .inl (cI, cx, .inl xs)), (qy, .inl (cI, cx, .inl ys)), (qm, .inl (cI, ct, .inl ma))] s.heap.size = A at hD ⊢
  have hA : ∀ q : Nat, s.heap.size ≤ q → A q := fun q h => by rw [← hAe]; exact Or.inr h
  have hS : va_S A s.heap s.heap [] := va_S.rf
  have hP : va_P g vwCl [(fa, .inr (3, fg_ kd pn pt qx qy qs pr sc qt qh (nI ml.length) qm qd)), (qx, .inl (cI, cx, .inl xs)), (qy, .inl (cI, cx, .inl ys)), (qm, .inl (cI, ct, .inl ma))] s.heap := hP
  have hl := lv_entry ([.ref fa, .int (nI p1)]) (n := 3) (Nat.le_of_ble_eq_true rfl)
  rw [lg_entry_eq]
  generalize (lg_sl ([.ref fa, .int (nI p1)]) ++ List.replicate (3 - (lg_sl ([.ref fa, .int (nI p1)])).length) Slot.unset).toArray = ls at hl ⊢
  have hl : lv_has ls 3 [(0, .ref fa), (1, .int (nI p1))] := hl
  have hH0 : s.heap = s.heap := rfl
  have hiX3 := ikX3_turnMark_X3
  refine lv_aload_n hx hb dX3_turnMark_0 rfl (lv_at hl 0 rfl) ?_
  refine lv_aload_n hx hb dX3_turnMark_1 rfl (lv_at hl 0 rfl) ?_
  refine va_get (D := g) (ci := 3) (v := .ref qx) (C := RX3) (T := TX3) (N := 13) hx hb hts hiX3 hown hK hP 0 rfl rfl 3 (by decide) (hts (.fieldLink RX3 21 "ShapeRelator$Figure" "xs" "[I") (List.mem_of_getElem? (i := 1) rfl)) (fun _ h9 => h9) rfl dX3_turnMark_2 ?_
  refine lv_iload_n hx hb dX3_turnMark_5 rfl (lv_at hl 1 rfl) ?_
  refine va_iald (D := g) hx hb hK hP 1 0 rfl rfl (vp_in_nI (h6) (by omega)) dX3_turnMark_6 ?_
  refine tpi_ (y := (xs p1)) (by rw [nI_clamp (by omega)]) ?_
  refine lv_aload_n hx hb dX3_turnMark_7 rfl (lv_at hl 0 rfl) ?_
  refine va_get (D := g) (ci := 3) (v := .ref qy) (C := RX3) (T := TX3) (N := 13) hx hb hts hiX3 hown hK hP 0 rfl rfl 4 (by decide) (hts (.fieldLink RX3 25 "ShapeRelator$Figure" "ys" "[I") (List.mem_of_getElem? (i := 2) rfl)) (fun _ h9 => h9) rfl dX3_turnMark_8 ?_
  refine lv_iload_n hx hb dX3_turnMark_11 rfl (lv_at hl 1 rfl) ?_
  refine va_iald (D := g) hx hb hK hP 2 0 rfl rfl (vp_in_nI (h6) (by omega)) dX3_turnMark_12 ?_
  refine tpi_ (y := (ys p1)) (by rw [nI_clamp (by omega)]) ?_
  have hPc := hP.sub (ws' := [(fa, .inr (3, fg_ kd pn pt qx qy qs pr sc qt qh (nI ml.length) qm qd)), (qx, .inl (cI, cx, .inl xs)), (qy, .inl (cI, cx, .inl ys)), (qm, .inl (cI, ct, .inl ma))]) [0, 1, 2, 3] rfl
  have hDc := hD.sub (ws' := [(fa, .inr (3, fg_ kd pn pt qx qy qs pr sc qt qh (nI ml.length) qm qd)), (qx, .inl (cI, cx, .inl xs)), (qy, .inl (cI, cx, .inl ys)), (qm, .inl (cI, ct, .inl ma))]) [0, 1, 2, 3] (by decide) rfl
  have hFc := va_free (wc := [(fa, .inr (3, fg_ kd pn pt qx qy qs pr sc qt qh (nI ml.length) qm qd)), (qx, .inl (cI, cx, .inl xs)), (qy, .inl (cI, cx, .inl ys)), (qm, .inl (cI, ct, .inl ma))]) hD hS hA [0, 1, 2, 3] rfl
  refine va_calli (va_runV (As := [.int (xs p1), .int (ys p1)]) (rest := []) ⟨hx, hb, hml, hown, hts⟩ (kX3_markAt l g cI cJ cZ s.heap.size fa kd pn pt qx qy qs pr sc qt qh qm qd cx xs ys ct ma ml (xs p1) (ys p1) h1 h2 h3 h4 h5) (cwV 2 hts gX3_turnMark_X3_markAt rfl rfl rfl (by decide +kernel) ⟨Nat.le_of_ble_eq_true rfl, Nat.le_of_ble_eq_true rfl⟩) (pv_ hK hPc hDc (va_recv hK hPc (ci := 3) (q0 := 0) rfl rfl)) rfl rfl hl.1 rfl (lv_room (Nat.le_of_ble_eq_true rfl)) dX3_turnMark_13 ⟨Nat.zero_le _, Nat.zero_le _⟩) hS (fun q _ h => hFc q h) hFc (fun r1 u t H1 locs ht hvm hw1 hB hz1 hk1 hS => ?_)
  obtain ⟨hP1, hK1, hD1⟩ := hB
  rw [ht] at hP1
  obtain ⟨hP, hD⟩ := va_join (wr := []) (w1 := [(fa, .inr (3, fg_ kd pn pt qx qy qs pr sc qt qh (nI ml.length) qm qd)), (qx, .inl (cI, cx, .inl xs)), (qy, .inl (cI, cx, .inl ys)), (qm, .inl (cI, ct, .inl ma))]) hP hD [0, 1, 2, 3] [] rfl rfl (by decide) (by decide) hk1 hFc hP1 hD1
  clear hPc hDc hFc hP1 hD1 hK1 hk1 hz1 hvm ht
  generalize H1 = H at hP hS ⊢
  have hP : va_P g vwCl [(fa, .inr (3, fg_ kd pn pt qx qy qs pr sc qt qh (nI ml.length) qm qd)), (qx, .inl (cI, cx, .inl xs)), (qy, .inl (cI, cx, .inl ys)), (qm, .inl (cI, ct, .inl ma))] H := hP
  have hD : va_D A [(fa, .inr (3, fg_ kd pn pt qx qy qs pr sc qt qh (nI ml.length) qm qd)), (qx, .inl (cI, cx, .inl xs)), (qy, .inl (cI, cx, .inl ys)), (qm, .inl (cI, ct, .inl ma))] := hD
  refine lv_istore_n (lv' := [(2, .int r1), (0, .ref fa), (1, .int (nI p1))]) hx hb dX3_turnMark_16 rfl hl (by decide) rfl (fun ls hl => ?_)
  refine lv_iload_n hx hb dX3_turnMark_17 rfl (lv_at hl 0 rfl) ?_
  refine lv_iconst (v := (-1)) hx hb dX3_turnMark_18 (by decide) ?_
  refine lv_icmp_ne (tgt := 30) hx hb dX3_turnMark_19 (by decide) (fun c1 => ?_) (fun c1 => ?_)
  · rw [hw1] at c1
    obtain ⟨j, ej, hj⟩ := mfi_j c1 (show ml.length < 2 ^ 31 by omega)
    have hm1 : nI ml.length - 1 = nI (ml.length - 1) := pk_sub (a := ml.length) (b := 1) (by omega)
    have et : trn_ xs ys ml p1 = (ml.set j (ml.getD (ml.length - 1) 0)).take (ml.length - 1) := trn_2 c1 ej (by omega)
    rw [hw1, ej] at hl
    have hl : lv_has ls 3 [(2, .int (nI j)), (0, .ref fa), (1, .int (nI p1))] := hl
    refine lv_aload_n hx hb dX3_turnMark_30 rfl (lv_at hl 1 rfl) ?_
    refine lv_dup hx hb dX3_turnMark_31 rfl ?_
    refine va_get (D := g) (ci := 3) (v := .int (nI ml.length)) (C := RX3) (T := TX3) (N := 13) hx hb hts hiX3 hown hK hP 0 rfl rfl 10 (by decide) (hts (.fieldLink RX3 44 "ShapeRelator$Figure" "markCount" "I") (List.mem_of_getElem? (i := 3) rfl)) (fun _ h9 => h9) rfl dX3_turnMark_32 ?_
    refine lv_iconst (v := 1) hx hb dX3_turnMark_35 (by decide) ?_
    refine lv_isub hx hb dX3_turnMark_36 ?_
    refine tpi_ (y := (nI (ml.length - 1))) hm1.symm ?_
    refine va_put (D := g) (ci := 3) (v := .int (nI (ml.length - 1))) (ty := .int) (C := RX3) (T := TX3) (N := 13) hx hb hts hiX3 tyX3 tyX3_ok nmX3 hown hK hP hD hS 0 rfl rfl 10 (by decide) (hts (.fieldLink RX3 44 "ShapeRelator$Figure" "markCount" "I") (List.mem_of_getElem? (i := 3) rfl)) (fun _ h9 => h9) rfl (by decide +kernel) rfl rfl (Nat.le_of_ble_eq_true rfl) dX3_turnMark_37 (fun H locs hP hD hS => ?_)
    have hP : va_P g vwCl [(fa, .inr (3, fg_ kd pn pt qx qy qs pr sc qt qh (nI (ml.length - 1)) qm qd)), (qx, .inl (cI, cx, .inl xs)), (qy, .inl (cI, cx, .inl ys)), (qm, .inl (cI, ct, .inl ma))] H := hP
    have hD : va_D A [(fa, .inr (3, fg_ kd pn pt qx qy qs pr sc qt qh (nI (ml.length - 1)) qm qd)), (qx, .inl (cI, cx, .inl xs)), (qy, .inl (cI, cx, .inl ys)), (qm, .inl (cI, ct, .inl ma))] := hD
    refine lv_aload_n hx hb dX3_turnMark_40 rfl (lv_at hl 1 rfl) ?_
    refine va_get (D := g) (ci := 3) (v := .ref qm) (C := RX3) (T := TX3) (N := 13) hx hb hts hiX3 hown hK hP 0 rfl rfl 11 (by decide) (hts (.fieldLink RX3 47 "ShapeRelator$Figure" "marks" "[I") (List.mem_of_getElem? (i := 4) rfl)) (fun _ h9 => h9) rfl dX3_turnMark_41 ?_
    refine lv_iload_n hx hb dX3_turnMark_44 rfl (lv_at hl 0 rfl) ?_
    refine lv_aload_n hx hb dX3_turnMark_45 rfl (lv_at hl 1 rfl) ?_
    refine va_get (D := g) (ci := 3) (v := .ref qm) (C := RX3) (T := TX3) (N := 13) hx hb hts hiX3 hown hK hP 0 rfl rfl 11 (by decide) (hts (.fieldLink RX3 47 "ShapeRelator$Figure" "marks" "[I") (List.mem_of_getElem? (i := 4) rfl)) (fun _ h9 => h9) rfl dX3_turnMark_46 ?_
    refine lv_aload_n hx hb dX3_turnMark_49 rfl (lv_at hl 1 rfl) ?_
    refine va_get (D := g) (ci := 3) (v := .int (nI (ml.length - 1))) (C := RX3) (T := TX3) (N := 13) hx hb hts hiX3 hown hK hP 0 rfl rfl 10 (by decide) (hts (.fieldLink RX3 44 "ShapeRelator$Figure" "markCount" "I") (List.mem_of_getElem? (i := 3) rfl)) (fun _ h9 => h9) rfl dX3_turnMark_50 ?_
    refine va_iald (D := g) hx hb hK hP 3 0 rfl rfl (vp_in_nI (show ml.length - 1 < ct by omega) (by omega)) dX3_turnMark_53 ?_
    refine tpi_ (y := (nI (ml.getD (ml.length - 1) 0))) (by rw [nI_clamp (by omega), h4 (ml.length - 1) (by omega)]) ?_
    refine va_iast (D := g) hx hb hK hP hD hS 3 0 rfl rfl (vp_in_nI (show j < ct by omega) (by omega)) dX3_turnMark_54 (fun H locs hP hD hS => ?_)
    rw [nI_clamp (show j < 2 ^ 31 by omega)] at hP hD
    have hP : va_P g vwCl [(fa, .inr (3, fg_ kd pn pt qx qy qs pr sc qt qh (nI (ml.length - 1)) qm qd)), (qx, .inl (cI, cx, .inl xs)), (qy, .inl (cI, cx, .inl ys)), (qm, .inl (cI, ct, .inl (upd ma j (nI (ml.getD (ml.length - 1) 0)))))] H := hP
    have hD : va_D A [(fa, .inr (3, fg_ kd pn pt qx qy qs pr sc qt qh (nI (ml.length - 1)) qm qd)), (qx, .inl (cI, cx, .inl xs)), (qy, .inl (cI, cx, .inl ys)), (qm, .inl (cI, ct, .inl (upd ma j (nI (ml.getD (ml.length - 1) 0)))))] := hD
    have en : ml.length - 1 = (trn_ xs ys ml p1).length := by rw [et, List.length_take, List.length_set]; omega
    rw [en] at hP hD
    have hP : va_P g vwCl [(fa, .inr (3, fg_ kd pn pt qx qy qs pr sc qt qh (nI (trn_ xs ys ml p1).length) qm qd)), (qx, .inl (cI, cx, .inl xs)), (qy, .inl (cI, cx, .inl ys)), (qm, .inl (cI, ct, .inl (upd ma j (nI (ml.getD (trn_ xs ys ml p1).length 0)))))] H := hP
    have hD : va_D A [(fa, .inr (3, fg_ kd pn pt qx qy qs pr sc qt qh (nI (trn_ xs ys ml p1).length) qm qd)), (qx, .inl (cI, cx, .inl xs)), (qy, .inl (cI, cx, .inl ys)), (qm, .inl (cI, ct, .inl (upd ma j (nI (ml.getD (trn_ xs ys ml p1).length 0)))))] := hD
    have hP9 := hP.sub (ws' := [(fa, .inr (3, fg_ kd pn pt qx qy qs pr sc qt qh (nI (trn_ xs ys ml p1).length) qm qd)), (qx, .inl (cI, cx, .inl xs)), (qy, .inl (cI, cx, .inl ys)), (qm, .inl (cI, ct, .inl (upd ma j (nI (ml.getD (trn_ xs ys ml p1).length 0)))))]) [0, 1, 2, 3] rfl
    have hD9 := hD.sub (ws' := [(fa, .inr (3, fg_ kd pn pt qx qy qs pr sc qt qh (nI (trn_ xs ys ml p1).length) qm qd)), (qx, .inl (cI, cx, .inl xs)), (qy, .inl (cI, cx, .inl ys)), (qm, .inl (cI, ct, .inl (upd ma j (nI (ml.getD (trn_ xs ys ml p1).length 0)))))]) [0, 1, 2, 3] (by decide) rfl
    exact W.vret hx hb hr (fun t ht hW => ⟨⟨upd ma j (nI (ml.getD (trn_ xs ys ml p1).length 0)), rfl, by rw [← en, et]; exact al_s h4 hj, by rw [ht]; exact hP9, va_K.moved hW.alike hK, hD9⟩, hS.F ht⟩) hS.2.2 dX3_turnMark_55
  · rw [hw1] at c1
    have et : trn_ xs ys ml p1 = ml ++ [p1] := trn_1 c1
    refine lv_aload_n hx hb dX3_turnMark_22 rfl (lv_at hl 1 rfl) ?_
    refine lv_iload_n hx hb dX3_turnMark_23 rfl (lv_at hl 2 rfl) ?_
    have hPc := hP.sub (ws' := [(fa, .inr (3, fg_ kd pn pt qx qy qs pr sc qt qh (nI ml.length) qm qd)), (qm, .inl (cI, ct, .inl ma))]) [0, 3] rfl
    have hDc := hD.sub (ws' := [(fa, .inr (3, fg_ kd pn pt qx qy qs pr sc qt qh (nI ml.length) qm qd)), (qm, .inl (cI, ct, .inl ma))]) [0, 3] (by decide) rfl
    have hFc := va_free (wc := [(fa, .inr (3, fg_ kd pn pt qx qy qs pr sc qt qh (nI ml.length) qm qd)), (qm, .inl (cI, ct, .inl ma))]) hD hS hA [0, 3] rfl
    refine va_callv (va_runV (As := [.int (nI p1)]) (rest := []) ⟨hx, hb, hml, hown, hts⟩ (kX3_addMark l g cI cJ cZ H.size fa kd pn pt qx qy qs pr sc qt qh qm qd ct ma ml p1 h1 (h7 c1) h4) (cwV 1 hts gX3_turnMark_X3_addMark rfl rfl rfl (by decide +kernel) ⟨Nat.le_of_ble_eq_true rfl, Nat.le_of_ble_eq_true rfl⟩) (pv_ hK hPc hDc (va_recv hK hPc (ci := 3) (q0 := 0) rfl rfl)) rfl rfl hl.1 rfl (lv_room (Nat.le_of_ble_eq_true rfl)) dX3_turnMark_24 ⟨Nat.zero_le _, Nat.zero_le _⟩) hS (fun q _ h => hFc q h) hFc (fun u t H1 locs ht hvm hw2 hB hz1 hk1 hS => ?_)
    obtain ⟨ma2, rfl⟩ : ∃ z, z = u := ⟨_, rfl⟩
    obtain ⟨hP1, hK1, hD1⟩ := hB
    rw [ht] at hP1
    obtain ⟨hP, hD⟩ := va_join (wr := [(qx, .inl (cI, cx, .inl xs)), (qy, .inl (cI, cx, .inl ys))]) (w1 := [(fa, .inr (3, fg_ kd pn pt qx qy qs pr sc qt qh (nI (ml ++ [p1]).length) qm qd)), (qm, .inl (cI, ct, .inl ma2))]) hP hD [0, 3] [1, 2] rfl rfl (by decide) (by decide) hk1 hFc hP1 hD1
    clear hPc hDc hFc hP1 hD1 hK1 hk1 hz1 hvm ht
    generalize H1 = H at hP hS ⊢
    have hP : va_P g vwCl [(qx, .inl (cI, cx, .inl xs)), (qy, .inl (cI, cx, .inl ys)), (fa, .inr (3, fg_ kd pn pt qx qy qs pr sc qt qh (nI (ml ++ [p1]).length) qm qd)), (qm, .inl (cI, ct, .inl ma2))] H := hP
    have hD : va_D A [(qx, .inl (cI, cx, .inl xs)), (qy, .inl (cI, cx, .inl ys)), (fa, .inr (3, fg_ kd pn pt qx qy qs pr sc qt qh (nI (ml ++ [p1]).length) qm qd)), (qm, .inl (cI, ct, .inl ma2))] := hD
    rw [← et] at hP hD hw2
    have hP : va_P g vwCl [(qx, .inl (cI, cx, .inl xs)), (qy, .inl (cI, cx, .inl ys)), (fa, .inr (3, fg_ kd pn pt qx qy qs pr sc qt qh (nI (trn_ xs ys ml p1).length) qm qd)), (qm, .inl (cI, ct, .inl ma2))] H := hP
    have hD : va_D A [(qx, .inl (cI, cx, .inl xs)), (qy, .inl (cI, cx, .inl ys)), (fa, .inr (3, fg_ kd pn pt qx qy qs pr sc qt qh (nI (trn_ xs ys ml p1).length) qm qd)), (qm, .inl (cI, ct, .inl ma2))] := hD
    refine lv_goto (tgt := 55) hx hb dX3_turnMark_27 (by decide) ?_
    have hP9 := hP.sub (ws' := [(fa, .inr (3, fg_ kd pn pt qx qy qs pr sc qt qh (nI (trn_ xs ys ml p1).length) qm qd)), (qx, .inl (cI, cx, .inl xs)), (qy, .inl (cI, cx, .inl ys)), (qm, .inl (cI, ct, .inl ma2))]) [2, 0, 1, 3] rfl
    have hD9 := hD.sub (ws' := [(fa, .inr (3, fg_ kd pn pt qx qy qs pr sc qt qh (nI (trn_ xs ys ml p1).length) qm qd)), (qx, .inl (cI, cx, .inl xs)), (qy, .inl (cI, cx, .inl ys)), (qm, .inl (cI, ct, .inl ma2))]) [2, 0, 1, 3] (by decide) rfl
    exact W.vret hx hb hr (fun t ht hW => ⟨⟨ma2, rfl, hw2, by rw [ht]; exact hP9, va_K.moved hW.alike hK, hD9⟩, hS.F ht⟩) hS.2.2 dX3_turnMark_55

theorem ikX3_addSegment_X3 : ∀ w ∈ wsX30, w ∈ wsX3_addSegment := by decide +kernel
set_option maxHeartbeats 1000000 in
set_option maxRecDepth 100000 in
theorem kX3_addSegment (l : Launch) (g : va_G) (cI cJ cZ : ClassId) (sz : Nat) (fa : Nat) (kd : Int32) (pn : Int32) (pt : Int32) (qx : Nat) (qy : Nat) (qs : Nat) (pr : Int32) (qt : Nat) (qh : Nat) (mn : Int32) (qm : Nat) (qd : Nat) (cx : Nat) (xs : Nat → Int32) (ys : Nat → Int32) (ct : Nat) (ta : Nat → Int32) (he : Nat → Int32) (sl : List (Nat × Nat)) (tn : Nat) (hn : Nat) (h1 : ct < 1000000) (h2 : cx < 1000000) (h3 : sl.length < ct) (h4 : sl_ ta he sl) (h5 : tn < cx) (h6 : hn < cx) : Met l yX3_addSegment wsX3_addSegment ({ frames := 0, cells := 0, slots := 0, locals := 0 }) (pc_ g cI cJ cZ [.ref fa, .int (nI tn), .int (nI hn)] [(fa, .inr (3, fg_ kd pn pt qx qy qs pr (nI sl.length) qt qh mn qm qd)), (qx, .inl (cI, cx, .inl xs)), (qy, .inl (cI, cx, .inl ys)), (qt, .inl (cI, ct, .inl ta)), (qh, .inl (cI, ct, .inl he))] sz) (va_Qv (fun (u : (Nat → Int32) × (Nat → Int32)) => match u with | (ta2, he2) => sl_ ta2 he2 (sgs_ xs ys sl tn hn)) (fun (u : (Nat → Int32) × (Nat → Int32)) t => match u with | (ta2, he2) => wd_ g cI cJ cZ (va_A [(fa, .inr (3, fg_ kd pn pt qx qy qs pr (nI sl.length) qt qh mn qm qd)), (qx, .inl (cI, cx, .inl xs)), (qy, .inl (cI, cx, .inl ys)), (qt, .inl (cI, ct, .inl ta)), (qh, .inl (cI, ct, .inl he))] sz) [(fa, .inr (3, fg_ kd pn pt qx qy qs pr (nI (sgs_ xs ys sl tn hn).length) qt qh mn qm qd)), (qx, .inl (cI, cx, .inl xs)), (qy, .inl (cI, cx, .inl ys)), (qt, .inl (cI, ct, .inl ta2)), (qh, .inl (cI, ct, .inl he2))] t) (va_A [(fa, .inr (3, fg_ kd pn pt qx qy qs pr (nI sl.length) qt qh mn qm qd)), (qx, .inl (cI, cx, .inl xs)), (qy, .inl (cI, cx, .inl ys)), (qt, .inl (cI, ct, .inl ta)), (qh, .inl (cI, ct, .inl he))] sz)) (0) (0) (va_A [(fa, .inr (3, fg_ kd pn pt qx qy qs pr (nI sl.length) qt qh mn qm qd)), (qx, .inl (cI, cx, .inl xs)), (qy, .inl (cI, cx, .inl ys)), (qt, .inl (cI, ct, .inl ta)), (qh, .inl (cI, ct, .inl he))] sz) := by
  refine Met.ofW (cc := cX3_addSegment) (maxL := 3) (ret := none) (by decide) rfl ?_
  intro p e s m args below meth c s₁ B hml hv
  obtain ⟨rfl, hsz, hP, hK, hD0⟩ := hv
  have hx := B.exec
  have hb := B.bytes
  have hr := B.returns
  have hts := atoms_spec (ws := wsX3_addSegment) B.pre
  have hown : s.vm.findClass RX3 = some m.cls := findClass_of_methodNamed B.named
  have hlocks := B.notSynchronized
  subst hsz
  have hD := hD0.self (sz := s.heap.size)
  generalize hAe : va_A [(fa, .inr (3, fg_ kd pn pt qx qy qs pr (nI sl.length) qt qh mn qm qd)), (qx, .inl (cI, cx, .inl xs)), (qy, .inl (cI, cx, .inl ys)), (qt, .inl (cI, ct, .inl ta)), (qh, .inl (cI, ct, .inl he))] s.heap.size = A at hD ⊢
  have hA : ∀ q : Nat, s.heap.size ≤ q → A q := fun q h => by rw [← hAe]; exact Or.inr h
  have hS : va_S A s.heap s.heap [] := va_S.rf
  have hP : va_P g vwCl [(fa, .inr (3, fg_ kd pn pt qx qy qs pr (nI sl.length) qt qh mn qm qd)), (qx, .inl (cI, cx, .inl xs)), (qy, .inl (cI, cx, .inl ys)), (qt, .inl (cI, ct, .inl ta)), (qh, .inl (cI, ct, .inl he))] s.heap := hP
  have hl := lv_entry ([.ref fa, .int (nI tn), .int (nI hn)]) (n := 3) (Nat.le_of_ble_eq_true rfl)
  rw [lg_entry_eq]
  generalize (lg_sl ([.ref fa, .int (nI tn), .int (nI hn)]) ++ List.replicate (3 - (lg_sl ([.ref fa, .int (nI tn), .int (nI hn)])).length) Slot.unset).toArray = ls at hl ⊢
  have hl : lv_has ls 3 [(0, .ref fa), (1, .int (nI tn)), (2, .int (nI hn))] := hl
  have hH0 : s.heap = s.heap := rfl
  have hiX3 := ikX3_addSegment_X3
  refine lv_aload_n hx hb dX3_addSegment_0 rfl (lv_at hl 0 rfl) ?_
  refine va_get (D := g) (ci := 3) (v := .ref qx) (C := RX3) (T := TX3) (N := 13) hx hb hts hiX3 hown hK hP 0 rfl rfl 3 (by decide) (hts (.fieldLink RX3 21 "ShapeRelator$Figure" "xs" "[I") (List.mem_of_getElem? (i := 1) rfl)) (fun _ h9 => h9) rfl dX3_addSegment_1 ?_
  refine lv_iload_n hx hb dX3_addSegment_4 rfl (lv_at hl 1 rfl) ?_
  refine va_iald (D := g) hx hb hK hP 1 0 rfl rfl (vp_in_nI (h5) (by omega)) dX3_addSegment_5 ?_
  refine tpi_ (y := (xs tn)) (by rw [nI_clamp (by omega)]) ?_
  refine lv_aload_n hx hb dX3_addSegment_6 rfl (lv_at hl 0 rfl) ?_
  refine va_get (D := g) (ci := 3) (v := .ref qx) (C := RX3) (T := TX3) (N := 13) hx hb hts hiX3 hown hK hP 0 rfl rfl 3 (by decide) (hts (.fieldLink RX3 21 "ShapeRelator$Figure" "xs" "[I") (List.mem_of_getElem? (i := 1) rfl)) (fun _ h9 => h9) rfl dX3_addSegment_7 ?_
  refine lv_iload_n hx hb dX3_addSegment_10 rfl (lv_at hl 2 rfl) ?_
  refine va_iald (D := g) hx hb hK hP 1 0 rfl rfl (vp_in_nI (h6) (by omega)) dX3_addSegment_11 ?_
  refine tpi_ (y := (xs hn)) (by rw [nI_clamp (by omega)]) ?_
  refine lv_icmp_ne (tgt := 31) hx hb dX3_addSegment_12 (by decide) (fun c1 => ?_) (fun c1 => ?_)
  · have es : sgs_ xs ys sl tn hn = sl ++ [(tn, hn)] := by unfold sgs_; rw [if_neg (fun h => c1 h.1)]
    refine lv_aload_n hx hb dX3_addSegment_31 rfl (lv_at hl 0 rfl) ?_
    refine va_get (D := g) (ci := 3) (v := .ref qt) (C := RX3) (T := TX3) (N := 13) hx hb hts hiX3 hown hK hP 0 rfl rfl 8 (by decide) (hts (.fieldLink RX3 38 "ShapeRelator$Figure" "tails" "[I") (List.mem_of_getElem? (i := 3) rfl)) (fun _ h9 => h9) rfl dX3_addSegment_32 ?_
    refine lv_aload_n hx hb dX3_addSegment_35 rfl (lv_at hl 0 rfl) ?_
    refine va_get (D := g) (ci := 3) (v := .int (nI sl.length)) (C := RX3) (T := TX3) (N := 13) hx hb hts hiX3 hown hK hP 0 rfl rfl 7 (by decide) (hts (.fieldLink RX3 35 "ShapeRelator$Figure" "segmentCount" "I") (List.mem_of_getElem? (i := 4) rfl)) (fun _ h9 => h9) rfl dX3_addSegment_36 ?_
    refine lv_iload_n hx hb dX3_addSegment_39 rfl (lv_at hl 1 rfl) ?_
    refine va_iast (D := g) hx hb hK hP hD hS 3 0 rfl rfl (vp_in_nI h3 (by omega)) dX3_addSegment_40 (fun H locs hP hD hS => ?_)
    rw [nI_clamp (show sl.length < 2 ^ 31 by omega)] at hP hD
    have hP : va_P g vwCl [(fa, .inr (3, fg_ kd pn pt qx qy qs pr (nI sl.length) qt qh mn qm qd)), (qx, .inl (cI, cx, .inl xs)), (qy, .inl (cI, cx, .inl ys)), (qt, .inl (cI, ct, .inl (upd ta sl.length (nI tn)))), (qh, .inl (cI, ct, .inl he))] H := hP
    have hD : va_D A [(fa, .inr (3, fg_ kd pn pt qx qy qs pr (nI sl.length) qt qh mn qm qd)), (qx, .inl (cI, cx, .inl xs)), (qy, .inl (cI, cx, .inl ys)), (qt, .inl (cI, ct, .inl (upd ta sl.length (nI tn)))), (qh, .inl (cI, ct, .inl he))] := hD
    refine lv_aload_n hx hb dX3_addSegment_41 rfl (lv_at hl 0 rfl) ?_
    refine va_get (D := g) (ci := 3) (v := .ref qh) (C := RX3) (T := TX3) (N := 13) hx hb hts hiX3 hown hK hP 0 rfl rfl 9 (by decide) (hts (.fieldLink RX3 41 "ShapeRelator$Figure" "heads" "[I") (List.mem_of_getElem? (i := 5) rfl)) (fun _ h9 => h9) rfl dX3_addSegment_42 ?_
    refine lv_aload_n hx hb dX3_addSegment_45 rfl (lv_at hl 0 rfl) ?_
    refine va_get (D := g) (ci := 3) (v := .int (nI sl.length)) (C := RX3) (T := TX3) (N := 13) hx hb hts hiX3 hown hK hP 0 rfl rfl 7 (by decide) (hts (.fieldLink RX3 35 "ShapeRelator$Figure" "segmentCount" "I") (List.mem_of_getElem? (i := 4) rfl)) (fun _ h9 => h9) rfl dX3_addSegment_46 ?_
    refine lv_iload_n hx hb dX3_addSegment_49 rfl (lv_at hl 2 rfl) ?_
    refine va_iast (D := g) hx hb hK hP hD hS 4 0 rfl rfl (vp_in_nI h3 (by omega)) dX3_addSegment_50 (fun H locs hP hD hS => ?_)
    rw [nI_clamp (show sl.length < 2 ^ 31 by omega)] at hP hD
    have hP : va_P g vwCl [(fa, .inr (3, fg_ kd pn pt qx qy qs pr (nI sl.length) qt qh mn qm qd)), (qx, .inl (cI, cx, .inl xs)), (qy, .inl (cI, cx, .inl ys)), (qt, .inl (cI, ct, .inl (upd ta sl.length (nI tn)))), (qh, .inl (cI, ct, .inl (upd he sl.length (nI hn))))] H := hP
    have hD : va_D A [(fa, .inr (3, fg_ kd pn pt qx qy qs pr (nI sl.length) qt qh mn qm qd)), (qx, .inl (cI, cx, .inl xs)), (qy, .inl (cI, cx, .inl ys)), (qt, .inl (cI, ct, .inl (upd ta sl.length (nI tn)))), (qh, .inl (cI, ct, .inl (upd he sl.length (nI hn))))] := hD
    refine lv_aload_n hx hb dX3_addSegment_51 rfl (lv_at hl 0 rfl) ?_
    refine lv_dup hx hb dX3_addSegment_52 rfl ?_
    refine va_get (D := g) (ci := 3) (v := .int (nI sl.length)) (C := RX3) (T := TX3) (N := 13) hx hb hts hiX3 hown hK hP 0 rfl rfl 7 (by decide) (hts (.fieldLink RX3 35 "ShapeRelator$Figure" "segmentCount" "I") (List.mem_of_getElem? (i := 4) rfl)) (fun _ h9 => h9) rfl dX3_addSegment_53 ?_
    refine lv_iconst (v := 1) hx hb dX3_addSegment_56 (by decide) ?_
    refine lv_iadd hx hb dX3_addSegment_57 ?_
    refine tpi_ (y := (nI (sgs_ xs ys sl tn hn).length)) (by rw [es]; exact al_1) ?_
    refine va_put (D := g) (ci := 3) (v := .int (nI (sgs_ xs ys sl tn hn).length)) (ty := .int) (C := RX3) (T := TX3) (N := 13) hx hb hts hiX3 tyX3 tyX3_ok nmX3 hown hK hP hD hS 0 rfl rfl 7 (by decide) (hts (.fieldLink RX3 35 "ShapeRelator$Figure" "segmentCount" "I") (List.mem_of_getElem? (i := 4) rfl)) (fun _ h9 => h9) rfl (by decide +kernel) rfl rfl (Nat.le_of_ble_eq_true rfl) dX3_addSegment_58 (fun H locs hP hD hS => ?_)
    have hP : va_P g vwCl [(fa, .inr (3, fg_ kd pn pt qx qy qs pr (nI (sgs_ xs ys sl tn hn).length) qt qh mn qm qd)), (qx, .inl (cI, cx, .inl xs)), (qy, .inl (cI, cx, .inl ys)), (qt, .inl (cI, ct, .inl (upd ta sl.length (nI tn)))), (qh, .inl (cI, ct, .inl (upd he sl.length (nI hn))))] H := hP
    have hD : va_D A [(fa, .inr (3, fg_ kd pn pt qx qy qs pr (nI (sgs_ xs ys sl tn hn).length) qt qh mn qm qd)), (qx, .inl (cI, cx, .inl xs)), (qy, .inl (cI, cx, .inl ys)), (qt, .inl (cI, ct, .inl (upd ta sl.length (nI tn)))), (qh, .inl (cI, ct, .inl (upd he sl.length (nI hn))))] := hD
    have hP9 := hP.sub (ws' := [(fa, .inr (3, fg_ kd pn pt qx qy qs pr (nI (sgs_ xs ys sl tn hn).length) qt qh mn qm qd)), (qx, .inl (cI, cx, .inl xs)), (qy, .inl (cI, cx, .inl ys)), (qt, .inl (cI, ct, .inl (upd ta sl.length (nI tn)))), (qh, .inl (cI, ct, .inl (upd he sl.length (nI hn))))]) [0, 1, 2, 3, 4] rfl
    have hD9 := hD.sub (ws' := [(fa, .inr (3, fg_ kd pn pt qx qy qs pr (nI (sgs_ xs ys sl tn hn).length) qt qh mn qm qd)), (qx, .inl (cI, cx, .inl xs)), (qy, .inl (cI, cx, .inl ys)), (qt, .inl (cI, ct, .inl (upd ta sl.length (nI tn)))), (qh, .inl (cI, ct, .inl (upd he sl.length (nI hn))))]) [0, 1, 2, 3, 4] (by decide) rfl
    exact W.vret hx hb hr (fun t ht hW => ⟨⟨(upd ta sl.length (nI tn), upd he sl.length (nI hn)), rfl, by rw [es]; exact sl_p h4, by rw [ht]; exact hP9, va_K.moved hW.alike hK, hD9⟩, hS.F ht⟩) hS.2.2 dX3_addSegment_61
  · refine lv_aload_n hx hb dX3_addSegment_15 rfl (lv_at hl 0 rfl) ?_
    refine va_get (D := g) (ci := 3) (v := .ref qy) (C := RX3) (T := TX3) (N := 13) hx hb hts hiX3 hown hK hP 0 rfl rfl 4 (by decide) (hts (.fieldLink RX3 25 "ShapeRelator$Figure" "ys" "[I") (List.mem_of_getElem? (i := 2) rfl)) (fun _ h9 => h9) rfl dX3_addSegment_16 ?_
    refine lv_iload_n hx hb dX3_addSegment_19 rfl (lv_at hl 1 rfl) ?_
    refine va_iald (D := g) hx hb hK hP 2 0 rfl rfl (vp_in_nI (h5) (by omega)) dX3_addSegment_20 ?_
    refine tpi_ (y := (ys tn)) (by rw [nI_clamp (by omega)]) ?_
    refine lv_aload_n hx hb dX3_addSegment_21 rfl (lv_at hl 0 rfl) ?_
    refine va_get (D := g) (ci := 3) (v := .ref qy) (C := RX3) (T := TX3) (N := 13) hx hb hts hiX3 hown hK hP 0 rfl rfl 4 (by decide) (hts (.fieldLink RX3 25 "ShapeRelator$Figure" "ys" "[I") (List.mem_of_getElem? (i := 2) rfl)) (fun _ h9 => h9) rfl dX3_addSegment_22 ?_
    refine lv_iload_n hx hb dX3_addSegment_25 rfl (lv_at hl 2 rfl) ?_
    refine va_iald (D := g) hx hb hK hP 2 0 rfl rfl (vp_in_nI (h6) (by omega)) dX3_addSegment_26 ?_
    refine tpi_ (y := (ys hn)) (by rw [nI_clamp (by omega)]) ?_
    refine lv_icmp_ne (tgt := 31) hx hb dX3_addSegment_27 (by decide) (fun c2 => ?_) (fun c2 => ?_)
    · have es : sgs_ xs ys sl tn hn = sl ++ [(tn, hn)] := by unfold sgs_; rw [if_neg (fun h => c2 h.2)]
      refine lv_aload_n hx hb dX3_addSegment_31 rfl (lv_at hl 0 rfl) ?_
      refine va_get (D := g) (ci := 3) (v := .ref qt) (C := RX3) (T := TX3) (N := 13) hx hb hts hiX3 hown hK hP 0 rfl rfl 8 (by decide) (hts (.fieldLink RX3 38 "ShapeRelator$Figure" "tails" "[I") (List.mem_of_getElem? (i := 3) rfl)) (fun _ h9 => h9) rfl dX3_addSegment_32 ?_
      refine lv_aload_n hx hb dX3_addSegment_35 rfl (lv_at hl 0 rfl) ?_
      refine va_get (D := g) (ci := 3) (v := .int (nI sl.length)) (C := RX3) (T := TX3) (N := 13) hx hb hts hiX3 hown hK hP 0 rfl rfl 7 (by decide) (hts (.fieldLink RX3 35 "ShapeRelator$Figure" "segmentCount" "I") (List.mem_of_getElem? (i := 4) rfl)) (fun _ h9 => h9) rfl dX3_addSegment_36 ?_
      refine lv_iload_n hx hb dX3_addSegment_39 rfl (lv_at hl 1 rfl) ?_
      refine va_iast (D := g) hx hb hK hP hD hS 3 0 rfl rfl (vp_in_nI h3 (by omega)) dX3_addSegment_40 (fun H locs hP hD hS => ?_)
      rw [nI_clamp (show sl.length < 2 ^ 31 by omega)] at hP hD
      have hP : va_P g vwCl [(fa, .inr (3, fg_ kd pn pt qx qy qs pr (nI sl.length) qt qh mn qm qd)), (qx, .inl (cI, cx, .inl xs)), (qy, .inl (cI, cx, .inl ys)), (qt, .inl (cI, ct, .inl (upd ta sl.length (nI tn)))), (qh, .inl (cI, ct, .inl he))] H := hP
      have hD : va_D A [(fa, .inr (3, fg_ kd pn pt qx qy qs pr (nI sl.length) qt qh mn qm qd)), (qx, .inl (cI, cx, .inl xs)), (qy, .inl (cI, cx, .inl ys)), (qt, .inl (cI, ct, .inl (upd ta sl.length (nI tn)))), (qh, .inl (cI, ct, .inl he))] := hD
      refine lv_aload_n hx hb dX3_addSegment_41 rfl (lv_at hl 0 rfl) ?_
      refine va_get (D := g) (ci := 3) (v := .ref qh) (C := RX3) (T := TX3) (N := 13) hx hb hts hiX3 hown hK hP 0 rfl rfl 9 (by decide) (hts (.fieldLink RX3 41 "ShapeRelator$Figure" "heads" "[I") (List.mem_of_getElem? (i := 5) rfl)) (fun _ h9 => h9) rfl dX3_addSegment_42 ?_
      refine lv_aload_n hx hb dX3_addSegment_45 rfl (lv_at hl 0 rfl) ?_
      refine va_get (D := g) (ci := 3) (v := .int (nI sl.length)) (C := RX3) (T := TX3) (N := 13) hx hb hts hiX3 hown hK hP 0 rfl rfl 7 (by decide) (hts (.fieldLink RX3 35 "ShapeRelator$Figure" "segmentCount" "I") (List.mem_of_getElem? (i := 4) rfl)) (fun _ h9 => h9) rfl dX3_addSegment_46 ?_
      refine lv_iload_n hx hb dX3_addSegment_49 rfl (lv_at hl 2 rfl) ?_
      refine va_iast (D := g) hx hb hK hP hD hS 4 0 rfl rfl (vp_in_nI h3 (by omega)) dX3_addSegment_50 (fun H locs hP hD hS => ?_)
      rw [nI_clamp (show sl.length < 2 ^ 31 by omega)] at hP hD
      have hP : va_P g vwCl [(fa, .inr (3, fg_ kd pn pt qx qy qs pr (nI sl.length) qt qh mn qm qd)), (qx, .inl (cI, cx, .inl xs)), (qy, .inl (cI, cx, .inl ys)), (qt, .inl (cI, ct, .inl (upd ta sl.length (nI tn)))), (qh, .inl (cI, ct, .inl (upd he sl.length (nI hn))))] H := hP
      have hD : va_D A [(fa, .inr (3, fg_ kd pn pt qx qy qs pr (nI sl.length) qt qh mn qm qd)), (qx, .inl (cI, cx, .inl xs)), (qy, .inl (cI, cx, .inl ys)), (qt, .inl (cI, ct, .inl (upd ta sl.length (nI tn)))), (qh, .inl (cI, ct, .inl (upd he sl.length (nI hn))))] := hD
      refine lv_aload_n hx hb dX3_addSegment_51 rfl (lv_at hl 0 rfl) ?_
      refine lv_dup hx hb dX3_addSegment_52 rfl ?_
      refine va_get (D := g) (ci := 3) (v := .int (nI sl.length)) (C := RX3) (T := TX3) (N := 13) hx hb hts hiX3 hown hK hP 0 rfl rfl 7 (by decide) (hts (.fieldLink RX3 35 "ShapeRelator$Figure" "segmentCount" "I") (List.mem_of_getElem? (i := 4) rfl)) (fun _ h9 => h9) rfl dX3_addSegment_53 ?_
      refine lv_iconst (v := 1) hx hb dX3_addSegment_56 (by decide) ?_
      refine lv_iadd hx hb dX3_addSegment_57 ?_
      refine tpi_ (y := (nI (sgs_ xs ys sl tn hn).length)) (by rw [es]; exact al_1) ?_
      refine va_put (D := g) (ci := 3) (v := .int (nI (sgs_ xs ys sl tn hn).length)) (ty := .int) (C := RX3) (T := TX3) (N := 13) hx hb hts hiX3 tyX3 tyX3_ok nmX3 hown hK hP hD hS 0 rfl rfl 7 (by decide) (hts (.fieldLink RX3 35 "ShapeRelator$Figure" "segmentCount" "I") (List.mem_of_getElem? (i := 4) rfl)) (fun _ h9 => h9) rfl (by decide +kernel) rfl rfl (Nat.le_of_ble_eq_true rfl) dX3_addSegment_58 (fun H locs hP hD hS => ?_)
      have hP : va_P g vwCl [(fa, .inr (3, fg_ kd pn pt qx qy qs pr (nI (sgs_ xs ys sl tn hn).length) qt qh mn qm qd)), (qx, .inl (cI, cx, .inl xs)), (qy, .inl (cI, cx, .inl ys)), (qt, .inl (cI, ct, .inl (upd ta sl.length (nI tn)))), (qh, .inl (cI, ct, .inl (upd he sl.length (nI hn))))] H := hP
      have hD : va_D A [(fa, .inr (3, fg_ kd pn pt qx qy qs pr (nI (sgs_ xs ys sl tn hn).length) qt qh mn qm qd)), (qx, .inl (cI, cx, .inl xs)), (qy, .inl (cI, cx, .inl ys)), (qt, .inl (cI, ct, .inl (upd ta sl.length (nI tn)))), (qh, .inl (cI, ct, .inl (upd he sl.length (nI hn))))] := hD
      have hP9 := hP.sub (ws' := [(fa, .inr (3, fg_ kd pn pt qx qy qs pr (nI (sgs_ xs ys sl tn hn).length) qt qh mn qm qd)), (qx, .inl (cI, cx, .inl xs)), (qy, .inl (cI, cx, .inl ys)), (qt, .inl (cI, ct, .inl (upd ta sl.length (nI tn)))), (qh, .inl (cI, ct, .inl (upd he sl.length (nI hn))))]) [0, 1, 2, 3, 4] rfl
      have hD9 := hD.sub (ws' := [(fa, .inr (3, fg_ kd pn pt qx qy qs pr (nI (sgs_ xs ys sl tn hn).length) qt qh mn qm qd)), (qx, .inl (cI, cx, .inl xs)), (qy, .inl (cI, cx, .inl ys)), (qt, .inl (cI, ct, .inl (upd ta sl.length (nI tn)))), (qh, .inl (cI, ct, .inl (upd he sl.length (nI hn))))]) [0, 1, 2, 3, 4] (by decide) rfl
      exact W.vret hx hb hr (fun t ht hW => ⟨⟨(upd ta sl.length (nI tn), upd he sl.length (nI hn)), rfl, by rw [es]; exact sl_p h4, by rw [ht]; exact hP9, va_K.moved hW.alike hK, hD9⟩, hS.F ht⟩) hS.2.2 dX3_addSegment_61
    · have es : sgs_ xs ys sl tn hn = sl := by unfold sgs_; rw [if_pos ⟨c1, c2⟩]
      rw [← es] at hP hD h4
      have hP : va_P g vwCl [(fa, .inr (3, fg_ kd pn pt qx qy qs pr (nI (sgs_ xs ys sl tn hn).length) qt qh mn qm qd)), (qx, .inl (cI, cx, .inl xs)), (qy, .inl (cI, cx, .inl ys)), (qt, .inl (cI, ct, .inl ta)), (qh, .inl (cI, ct, .inl he))] s.heap := hP
      have hD : va_D A [(fa, .inr (3, fg_ kd pn pt qx qy qs pr (nI (sgs_ xs ys sl tn hn).length) qt qh mn qm qd)), (qx, .inl (cI, cx, .inl xs)), (qy, .inl (cI, cx, .inl ys)), (qt, .inl (cI, ct, .inl ta)), (qh, .inl (cI, ct, .inl he))] := hD
      have hP9 := hP.sub (ws' := [(fa, .inr (3, fg_ kd pn pt qx qy qs pr (nI (sgs_ xs ys sl tn hn).length) qt qh mn qm qd)), (qx, .inl (cI, cx, .inl xs)), (qy, .inl (cI, cx, .inl ys)), (qt, .inl (cI, ct, .inl ta)), (qh, .inl (cI, ct, .inl he))]) [0, 1, 2, 3, 4] rfl
      have hD9 := hD.sub (ws' := [(fa, .inr (3, fg_ kd pn pt qx qy qs pr (nI (sgs_ xs ys sl tn hn).length) qt qh mn qm qd)), (qx, .inl (cI, cx, .inl xs)), (qy, .inl (cI, cx, .inl ys)), (qt, .inl (cI, ct, .inl ta)), (qh, .inl (cI, ct, .inl he))]) [0, 1, 2, 3, 4] (by decide) rfl
      exact W.vret hx hb hr (fun t ht hW => ⟨⟨(ta, he), rfl, h4, by rw [ht]; exact hP9, va_K.moved hW.alike hK, hD9⟩, hS.F ht⟩) hS.2.2 dX3_addSegment_30

theorem ikX3_whereIs_X3 : ∀ w ∈ wsX30, w ∈ wsX3_whereIs := by decide +kernel
set_option maxHeartbeats 1000000 in
set_option maxRecDepth 100000 in
theorem kX3_whereIs (l : Launch) (g : va_G) (cI cJ cZ : ClassId) (sz : Nat) (fa : Nat) (kd : Int32) (pn : Int32) (pt : Int32) (qx : Nat) (qy : Nat) (qs : Nat) (pr : Int32) (qt : Nat) (qh : Nat) (qm : Nat) (qd : Nat) (cx : Nat) (xs : Nat → Int32) (ys : Nat → Int32) (ct : Nat) (ta : Nat → Int32) (he : Nat → Int32) (ma : Nat → Int32) (sl : List (Nat × Nat)) (ml : List Nat) (x1 : Int32) (y1 : Int32) (h1 : ct < 1000000) (h2 : cx < 1000000) (h3 : sl.length ≤ ct) (h4 : sl_ ta he sl) (h5 : ∀ q ∈ sl, q.1 < cx ∧ q.2 < cx) (h6 : ml.length ≤ ct) (h7 : al_ ma ml) (h8 : ∀ q ∈ ml, q < cx) : Met l yX3_whereIs wsX3_whereIs ({ frames := 2, cells := 0, slots := 0, locals := 40 }) (pc_ g cI cJ cZ [.ref fa, .int x1, .int y1] [(fa, .inr (3, fg_ kd pn pt qx qy qs pr (nI sl.length) qt qh (nI ml.length) qm qd)), (qx, .inl (cI, cx, .inl xs)), (qy, .inl (cI, cx, .inl ys)), (qt, .inl (cI, ct, .inl ta)), (qh, .inl (cI, ct, .inl he)), (qm, .inl (cI, ct, .inl ma))] sz) (va_Qi (fun (r : Int32) (_ : Unit) => r = whs_ kd xs ys sl ml x1 y1) (fun (_ : Unit) t => wd_ g cI cJ cZ (va_A [(fa, .inr (3, fg_ kd pn pt qx qy qs pr (nI sl.length) qt qh (nI ml.length) qm qd)), (qx, .inl (cI, cx, .inl xs)), (qy, .inl (cI, cx, .inl ys)), (qt, .inl (cI, ct, .inl ta)), (qh, .inl (cI, ct, .inl he)), (qm, .inl (cI, ct, .inl ma))] sz) [(fa, .inr (3, fg_ kd pn pt qx qy qs pr (nI sl.length) qt qh (nI ml.length) qm qd)), (qx, .inl (cI, cx, .inl xs)), (qy, .inl (cI, cx, .inl ys)), (qt, .inl (cI, ct, .inl ta)), (qh, .inl (cI, ct, .inl he)), (qm, .inl (cI, ct, .inl ma))] t) (va_A [(fa, .inr (3, fg_ kd pn pt qx qy qs pr (nI sl.length) qt qh (nI ml.length) qm qd)), (qx, .inl (cI, cx, .inl xs)), (qy, .inl (cI, cx, .inl ys)), (qt, .inl (cI, ct, .inl ta)), (qh, .inl (cI, ct, .inl he)), (qm, .inl (cI, ct, .inl ma))] sz)) (0) (0) (va_A [(fa, .inr (3, fg_ kd pn pt qx qy qs pr (nI sl.length) qt qh (nI ml.length) qm qd)), (qx, .inl (cI, cx, .inl xs)), (qy, .inl (cI, cx, .inl ys)), (qt, .inl (cI, ct, .inl ta)), (qh, .inl (cI, ct, .inl he)), (qm, .inl (cI, ct, .inl ma))] sz) := by
  refine Met.ofW (cc := cX3_whereIs) (maxL := 10) (ret := (some .int)) (by decide) rfl ?_
  intro p e s m args below meth c s₁ B hml hv
  obtain ⟨rfl, hsz, hP, hK, hD0⟩ := hv
  have hx := B.exec
  have hb := B.bytes
  have hr := B.returns
  have hts := atoms_spec (ws := wsX3_whereIs) B.pre
  have hown : s.vm.findClass RX3 = some m.cls := findClass_of_methodNamed B.named
  have hlocks := B.notSynchronized
  subst hsz
  have hD := hD0.self (sz := s.heap.size)
  generalize hAe : va_A [(fa, .inr (3, fg_ kd pn pt qx qy qs pr (nI sl.length) qt qh (nI ml.length) qm qd)), (qx, .inl (cI, cx, .inl xs)), (qy, .inl (cI, cx, .inl ys)), (qt, .inl (cI, ct, .inl ta)), (qh, .inl (cI, ct, .inl he)), (qm, .inl (cI, ct, .inl ma))] s.heap.size = A at hD ⊢
  have hA : ∀ q : Nat, s.heap.size ≤ q → A q := fun q h => by rw [← hAe]; exact Or.inr h
  have hS : va_S A s.heap s.heap [] := va_S.rf
  have hP : va_P g vwCl [(fa, .inr (3, fg_ kd pn pt qx qy qs pr (nI sl.length) qt qh (nI ml.length) qm qd)), (qx, .inl (cI, cx, .inl xs)), (qy, .inl (cI, cx, .inl ys)), (qt, .inl (cI, ct, .inl ta)), (qh, .inl (cI, ct, .inl he)), (qm, .inl (cI, ct, .inl ma))] s.heap := hP
  have hl := lv_entry ([.ref fa, .int x1, .int y1]) (n := 10) (Nat.le_of_ble_eq_true rfl)
  rw [lg_entry_eq]
  generalize (lg_sl ([.ref fa, .int x1, .int y1]) ++ List.replicate (10 - (lg_sl ([.ref fa, .int x1, .int y1])).length) Slot.unset).toArray = ls at hl ⊢
  have hl : lv_has ls 10 [(0, .ref fa), (1, .int x1), (2, .int y1)] := hl
  have hH0 : s.heap = s.heap := rfl
  have hiX3 := ikX3_whereIs_X3
  refine lv_aload_n hx hb dX3_whereIs_0 rfl (lv_at hl 0 rfl) ?_
  refine lv_iload_n hx hb dX3_whereIs_1 rfl (lv_at hl 1 rfl) ?_
  refine lv_iload_n hx hb dX3_whereIs_2 rfl (lv_at hl 2 rfl) ?_
  have hPc := hP.sub (ws' := [(fa, .inr (3, fg_ kd pn pt qx qy qs pr (nI sl.length) qt qh (nI ml.length) qm qd)), (qx, .inl (cI, cx, .inl xs)), (qy, .inl (cI, cx, .inl ys)), (qm, .inl (cI, ct, .inl ma))]) [0, 1, 2, 5] rfl
  have hDc := hD.sub (ws' := [(fa, .inr (3, fg_ kd pn pt qx qy qs pr (nI sl.length) qt qh (nI ml.length) qm qd)), (qx, .inl (cI, cx, .inl xs)), (qy, .inl (cI, cx, .inl ys)), (qm, .inl (cI, ct, .inl ma))]) [0, 1, 2, 5] (by decide) rfl
  have hFc := va_free (wc := [(fa, .inr (3, fg_ kd pn pt qx qy qs pr (nI sl.length) qt qh (nI ml.length) qm qd)), (qx, .inl (cI, cx, .inl xs)), (qy, .inl (cI, cx, .inl ys)), (qm, .inl (cI, ct, .inl ma))]) hD hS hA [0, 1, 2, 5] rfl
  refine va_calli (va_runV (As := [.int x1, .int y1]) (rest := []) ⟨hx, hb, hml, hown, hts⟩ (kX3_markAt l g cI cJ cZ s.heap.size fa kd pn pt qx qy qs pr (nI sl.length) qt qh qm qd cx xs ys ct ma ml x1 y1 h1 h2 h6 h7 h8) (cwV 2 hts gX3_whereIs_X3_markAt rfl rfl rfl (by decide +kernel) ⟨Nat.le_of_ble_eq_true rfl, Nat.le_of_ble_eq_true rfl⟩) (pv_ hK hPc hDc (va_recv hK hPc (ci := 3) (q0 := 0) rfl rfl)) rfl rfl hl.1 rfl (lv_room (Nat.le_of_ble_eq_true rfl)) dX3_whereIs_3 ⟨Nat.zero_le _, Nat.zero_le _⟩) hS (fun q _ h => hFc q h) hFc (fun r1 u t H1 locs ht hvm hw1 hB hz1 hk1 hS => ?_)
  obtain ⟨hP1, hK1, hD1⟩ := hB
  rw [ht] at hP1
  obtain ⟨hP, hD⟩ := va_join (wr := [(qt, .inl (cI, ct, .inl ta)), (qh, .inl (cI, ct, .inl he))]) (w1 := [(fa, .inr (3, fg_ kd pn pt qx qy qs pr (nI sl.length) qt qh (nI ml.length) qm qd)), (qx, .inl (cI, cx, .inl xs)), (qy, .inl (cI, cx, .inl ys)), (qm, .inl (cI, ct, .inl ma))]) hP hD [0, 1, 2, 5] [3, 4] rfl rfl (by decide) (by decide) hk1 hFc hP1 hD1
  clear hPc hDc hFc hP1 hD1 hK1 hk1 hz1 hvm ht
  generalize H1 = H at hP hS ⊢
  have hP : va_P g vwCl [(qt, .inl (cI, ct, .inl ta)), (qh, .inl (cI, ct, .inl he)), (fa, .inr (3, fg_ kd pn pt qx qy qs pr (nI sl.length) qt qh (nI ml.length) qm qd)), (qx, .inl (cI, cx, .inl xs)), (qy, .inl (cI, cx, .inl ys)), (qm, .inl (cI, ct, .inl ma))] H := hP
  have hD : va_D A [(qt, .inl (cI, ct, .inl ta)), (qh, .inl (cI, ct, .inl he)), (fa, .inr (3, fg_ kd pn pt qx qy qs pr (nI sl.length) qt qh (nI ml.length) qm qd)), (qx, .inl (cI, cx, .inl xs)), (qy, .inl (cI, cx, .inl ys)), (qm, .inl (cI, ct, .inl ma))] := hD
  refine lv_iconst (v := (-1)) hx hb dX3_whereIs_6 (by decide) ?_
  refine lv_icmp_eq (tgt := 15) hx hb dX3_whereIs_7 (by decide) (fun c1 => ?_) (fun c1 => ?_)
  · rw [hw1] at c1
    refine lv_iconst (v := 0) hx hb dX3_whereIs_15 (by decide) ?_
    refine lv_istore_n (lv' := [(3, .int 0), (0, .ref fa), (1, .int x1), (2, .int y1)]) hx hb dX3_whereIs_16 rfl hl (by decide) rfl (fun ls hl => ?_)
    refine lv_iconst (v := 0) hx hb dX3_whereIs_17 (by decide) ?_
    refine lv_istore (lv' := [(4, .int 0), (3, .int 0), (0, .ref fa), (1, .int x1), (2, .int y1)]) hx hb dX3_whereIs_18 hl (by decide) rfl (fun ls hl => ?_)
    refine lpW (σ := Nat × Int32) (fun (i, b) => sl.length - i) (fun (i, b) => 0) (fun (i, b) => 0) (fun (i, b) H locs ls => (i ≤ sl.length ∧ wis_ kd xs ys x1 y1 sl 0 = wis_ kd xs ys x1 y1 (sl.drop i) b) ∧ va_P g vwCl [(qt, .inl (cI, ct, .inl ta)), (qh, .inl (cI, ct, .inl he)), (fa, .inr (3, fg_ kd pn pt qx qy qs pr (nI sl.length) qt qh (nI ml.length) qm qd)), (qx, .inl (cI, cx, .inl xs)), (qy, .inl (cI, cx, .inl ys)), (qm, .inl (cI, ct, .inl ma))] H ∧ va_D A [(qt, .inl (cI, ct, .inl ta)), (qh, .inl (cI, ct, .inl he)), (fa, .inr (3, fg_ kd pn pt qx qy qs pr (nI sl.length) qt qh (nI ml.length) qm qd)), (qx, .inl (cI, cx, .inl xs)), (qy, .inl (cI, cx, .inl ys)), (qm, .inl (cI, ct, .inl ma))] ∧ va_S A s.heap H locs ∧ lv_has ls 10 [(4, .int (nI i)), (3, .int b), (0, .ref fa), (1, .int x1), (2, .int y1)]) (fun x ih H locs ls hI => ?_) (0, 0) rfl rfl ⟨⟨Nat.zero_le _, rfl⟩, hP, hD, hS, (lv_sub hl [0, 1, 2, 3, 4] rfl)⟩
    obtain ⟨i, b⟩ := x
    obtain ⟨hi, hP, hD, hS, hl⟩ := hI
    have hP : va_P g vwCl [(qt, .inl (cI, ct, .inl ta)), (qh, .inl (cI, ct, .inl he)), (fa, .inr (3, fg_ kd pn pt qx qy qs pr (nI sl.length) qt qh (nI ml.length) qm qd)), (qx, .inl (cI, cx, .inl xs)), (qy, .inl (cI, cx, .inl ys)), (qm, .inl (cI, ct, .inl ma))] H := hP
    have hD : va_D A [(qt, .inl (cI, ct, .inl ta)), (qh, .inl (cI, ct, .inl he)), (fa, .inr (3, fg_ kd pn pt qx qy qs pr (nI sl.length) qt qh (nI ml.length) qm qd)), (qx, .inl (cI, cx, .inl xs)), (qy, .inl (cI, cx, .inl ys)), (qm, .inl (cI, ct, .inl ma))] := hD
    have hl : lv_has ls 10 [(4, .int (nI i)), (3, .int b), (0, .ref fa), (1, .int x1), (2, .int y1)] := hl
    show W p l e _ s m _ below meth c H locs (0) (0) _ (F0 m 20 ls [])
    refine lv_iload hx hb dX3_whereIs_20 (lv_at hl 0 rfl) ?_
    refine lv_aload_n hx hb dX3_whereIs_22 rfl (lv_at hl 2 rfl) ?_
    refine va_get (D := g) (ci := 3) (v := .int (nI sl.length)) (C := RX3) (T := TX3) (N := 13) hx hb hts hiX3 hown hK hP 2 rfl rfl 7 (by decide) (hts (.fieldLink RX3 35 "ShapeRelator$Figure" "segmentCount" "I") (List.mem_of_getElem? (i := 1) rfl)) (fun _ h9 => h9) rfl dX3_whereIs_23 ?_
    refine lv_icmp_ge (tgt := 156) hx hb dX3_whereIs_26 (by decide) (fun c2 => ?_) (fun c2 => ?_)
    · have e1 : i = sl.length := Nat.le_antisymm hi.1 (i_ge c2 (by omega) (by omega))
      refine lv_aload_n hx hb dX3_whereIs_156 rfl (lv_at hl 2 rfl) ?_
      refine lv_iload_n hx hb dX3_whereIs_157 rfl (lv_at hl 1 rfl) ?_
      have hPc := hP.sub (ws' := [(fa, .inr (3, fg_ kd pn pt qx qy qs pr (nI sl.length) qt qh (nI ml.length) qm qd))]) [2] rfl
      have hDc := hD.sub (ws' := [(fa, .inr (3, fg_ kd pn pt qx qy qs pr (nI sl.length) qt qh (nI ml.length) qm qd))]) [2] (by decide) rfl
      have hFc := va_free (wc := [(fa, .inr (3, fg_ kd pn pt qx qy qs pr (nI sl.length) qt qh (nI ml.length) qm qd))]) hD hS hA [2] rfl
      refine va_calli (va_runV (As := [.int b]) (rest := []) ⟨hx, hb, hml, hown, hts⟩ (kX3_placeOffSegments l g cI cJ cZ H.size fa kd pn pt qx qy qs pr (nI sl.length) qt qh (nI ml.length) qm qd b) (cwV 1 hts gX3_whereIs_X3_placeOffSegments rfl rfl rfl (by decide +kernel) ⟨Nat.le_of_ble_eq_true rfl, Nat.le_of_ble_eq_true rfl⟩) (pv_ hK hPc hDc (va_recv hK hPc (ci := 3) (q0 := 0) rfl rfl)) rfl rfl hl.1 rfl (lv_room (Nat.le_of_ble_eq_true rfl)) dX3_whereIs_158 ⟨Nat.zero_le _, Nat.zero_le _⟩) hS (fun q _ h => hFc q h) hFc (fun r_1 u t H1 locs ht hvm hw2 hB hz1 hk1 hS => ?_)
      obtain ⟨hP1, hK1, hD1⟩ := hB
      rw [ht] at hP1
      obtain ⟨hP, hD⟩ := va_join (wr := [(qt, .inl (cI, ct, .inl ta)), (qh, .inl (cI, ct, .inl he)), (qx, .inl (cI, cx, .inl xs)), (qy, .inl (cI, cx, .inl ys)), (qm, .inl (cI, ct, .inl ma))]) (w1 := [(fa, .inr (3, fg_ kd pn pt qx qy qs pr (nI sl.length) qt qh (nI ml.length) qm qd))]) hP hD [2] [0, 1, 3, 4, 5] rfl rfl (by decide) (by decide) hk1 hFc hP1 hD1
      clear hPc hDc hFc hP1 hD1 hK1 hk1 hz1 hvm ht
      generalize H1 = H at hP hS ⊢
      have hP : va_P g vwCl [(qt, .inl (cI, ct, .inl ta)), (qh, .inl (cI, ct, .inl he)), (qx, .inl (cI, cx, .inl xs)), (qy, .inl (cI, cx, .inl ys)), (qm, .inl (cI, ct, .inl ma)), (fa, .inr (3, fg_ kd pn pt qx qy qs pr (nI sl.length) qt qh (nI ml.length) qm qd))] H := hP
      have hD : va_D A [(qt, .inl (cI, ct, .inl ta)), (qh, .inl (cI, ct, .inl he)), (qx, .inl (cI, cx, .inl xs)), (qy, .inl (cI, cx, .inl ys)), (qm, .inl (cI, ct, .inl ma)), (fa, .inr (3, fg_ kd pn pt qx qy qs pr (nI sl.length) qt qh (nI ml.length) qm qd))] := hD
      have hP9 := hP.sub (ws' := [(fa, .inr (3, fg_ kd pn pt qx qy qs pr (nI sl.length) qt qh (nI ml.length) qm qd)), (qx, .inl (cI, cx, .inl xs)), (qy, .inl (cI, cx, .inl ys)), (qt, .inl (cI, ct, .inl ta)), (qh, .inl (cI, ct, .inl he)), (qm, .inl (cI, ct, .inl ma))]) [5, 2, 3, 0, 1, 4] rfl
      have hD9 := hD.sub (ws' := [(fa, .inr (3, fg_ kd pn pt qx qy qs pr (nI sl.length) qt qh (nI ml.length) qm qd)), (qx, .inl (cI, cx, .inl xs)), (qy, .inl (cI, cx, .inl ys)), (qt, .inl (cI, ct, .inl ta)), (qh, .inl (cI, ct, .inl he)), (qm, .inl (cI, ct, .inl ma))]) [5, 2, 3, 0, 1, 4] (by decide) rfl
      exact W.iret (v := r_1) hx hb hr (fun t ht hW => ⟨⟨r_1, (), rfl, by rw [hw2]; unfold whs_; rw [if_pos c1, hi.2, e1, List.drop_length]; rfl, by rw [ht]; exact hP9, va_K.moved hW.alike hK, hD9⟩, hS.F ht⟩) hS.2.2 dX3_whereIs_161
    · have e1 : i < sl.length := i_nge c2 (by omega) (by omega)
      have e2 := wis_s (kd := kd) (xs := xs) (ys := ys) (x := x1) (y := y1) (b := b) e1
      have hi0 := hi.1
      obtain ⟨tn, etn⟩ : ∃ z, z = (sl.getD i (0, 0)).1 := ⟨_, rfl⟩
      obtain ⟨hn, ehn⟩ : ∃ z, z = (sl.getD i (0, 0)).2 := ⟨_, rfl⟩
      rw [← etn, ← ehn] at e2
      have e3 : tn < cx := by rw [etn]; exact (h5 _ (sl_m e1)).1
      have e4 : hn < cx := by rw [ehn]; exact (h5 _ (sl_m e1)).2
      refine lv_aload_n hx hb dX3_whereIs_29 rfl (lv_at hl 2 rfl) ?_
      refine va_get (D := g) (ci := 3) (v := .ref qt) (C := RX3) (T := TX3) (N := 13) hx hb hts hiX3 hown hK hP 2 rfl rfl 8 (by decide) (hts (.fieldLink RX3 38 "ShapeRelator$Figure" "tails" "[I") (List.mem_of_getElem? (i := 2) rfl)) (fun _ h9 => h9) rfl dX3_whereIs_30 ?_
      refine lv_iload hx hb dX3_whereIs_33 (lv_at hl 0 rfl) ?_
      refine va_iald (D := g) hx hb hK hP 0 0 rfl rfl (vp_in_nI (show i < ct by omega) (by omega)) dX3_whereIs_35 ?_
      refine tpi_ (y := (nI tn)) (by rw [nI_clamp (by omega), (h4 i e1).1, etn]) ?_
      refine lv_istore (lv' := [(5, .int (nI tn)), (4, .int (nI i)), (3, .int b), (0, .ref fa), (1, .int x1), (2, .int y1)]) hx hb dX3_whereIs_36 hl (by decide) rfl (fun ls hl => ?_)
      refine lv_aload_n hx hb dX3_whereIs_38 rfl (lv_at hl 3 rfl) ?_
      refine va_get (D := g) (ci := 3) (v := .ref qh) (C := RX3) (T := TX3) (N := 13) hx hb hts hiX3 hown hK hP 2 rfl rfl 9 (by decide) (hts (.fieldLink RX3 41 "ShapeRelator$Figure" "heads" "[I") (List.mem_of_getElem? (i := 3) rfl)) (fun _ h9 => h9) rfl dX3_whereIs_39 ?_
      refine lv_iload hx hb dX3_whereIs_42 (lv_at hl 1 rfl) ?_
      refine va_iald (D := g) hx hb hK hP 1 0 rfl rfl (vp_in_nI (show i < ct by omega) (by omega)) dX3_whereIs_44 ?_
      refine tpi_ (y := (nI hn)) (by rw [nI_clamp (by omega), (h4 i e1).2, ehn]) ?_
      refine lv_istore (lv' := [(6, .int (nI hn)), (5, .int (nI tn)), (4, .int (nI i)), (3, .int b), (0, .ref fa), (1, .int x1), (2, .int y1)]) hx hb dX3_whereIs_45 hl (by decide) rfl (fun ls hl => ?_)
      refine lv_aload_n hx hb dX3_whereIs_47 rfl (lv_at hl 4 rfl) ?_
      refine lv_iload hx hb dX3_whereIs_48 (lv_at hl 1 rfl) ?_
      refine lv_iload hx hb dX3_whereIs_50 (lv_at hl 0 rfl) ?_
      refine lv_iload_n hx hb dX3_whereIs_52 rfl (lv_at hl 5 rfl) ?_
      refine lv_iload_n hx hb dX3_whereIs_53 rfl (lv_at hl 6 rfl) ?_
      have hPc := hP.sub (ws' := [(fa, .inr (3, fg_ kd pn pt qx qy qs pr (nI sl.length) qt qh (nI ml.length) qm qd)), (qx, .inl (cI, cx, .inl xs)), (qy, .inl (cI, cx, .inl ys))]) [2, 3, 4] rfl
      have hDc := hD.sub (ws' := [(fa, .inr (3, fg_ kd pn pt qx qy qs pr (nI sl.length) qt qh (nI ml.length) qm qd)), (qx, .inl (cI, cx, .inl xs)), (qy, .inl (cI, cx, .inl ys))]) [2, 3, 4] (by decide) rfl
      have hFc := va_free (wc := [(fa, .inr (3, fg_ kd pn pt qx qy qs pr (nI sl.length) qt qh (nI ml.length) qm qd)), (qx, .inl (cI, cx, .inl xs)), (qy, .inl (cI, cx, .inl ys))]) hD hS hA [2, 3, 4] rfl
      refine va_calll (va_runV (As := [.int (nI tn), .int (nI hn), .int x1, .int y1]) (rest := []) ⟨hx, hb, hml, hown, hts⟩ (kX3_sideOfSegment l g cI cJ cZ H.size fa kd pn pt qx qy qs pr (nI sl.length) qt qh (nI ml.length) qm qd cx xs ys tn hn x1 y1 h2 e3 e4) (cwV 4 hts gX3_whereIs_X3_sideOfSegment rfl rfl rfl (by decide +kernel) ⟨Nat.le_of_ble_eq_true rfl, Nat.le_of_ble_eq_true rfl⟩) (pv_ hK hPc hDc (va_recv hK hPc (ci := 3) (q0 := 0) rfl rfl)) rfl rfl hl.1 rfl (lv_room (Nat.le_of_ble_eq_true rfl)) dX3_whereIs_54 ⟨Nat.zero_le _, Nat.zero_le _⟩) hS (fun q _ h => hFc q h) hFc (fun r2 u t H1 locs ht hvm hw2 hB hz1 hk1 hS => ?_)
      obtain ⟨hP1, hK1, hD1⟩ := hB
      rw [ht] at hP1
      obtain ⟨hP, hD⟩ := va_join (wr := [(qt, .inl (cI, ct, .inl ta)), (qh, .inl (cI, ct, .inl he)), (qm, .inl (cI, ct, .inl ma))]) (w1 := [(fa, .inr (3, fg_ kd pn pt qx qy qs pr (nI sl.length) qt qh (nI ml.length) qm qd)), (qx, .inl (cI, cx, .inl xs)), (qy, .inl (cI, cx, .inl ys))]) hP hD [2, 3, 4] [0, 1, 5] rfl rfl (by decide) (by decide) hk1 hFc hP1 hD1
      clear hPc hDc hFc hP1 hD1 hK1 hk1 hz1 hvm ht
      generalize H1 = H at hP hS ⊢
      have hP : va_P g vwCl [(qt, .inl (cI, ct, .inl ta)), (qh, .inl (cI, ct, .inl he)), (qm, .inl (cI, ct, .inl ma)), (fa, .inr (3, fg_ kd pn pt qx qy qs pr (nI sl.length) qt qh (nI ml.length) qm qd)), (qx, .inl (cI, cx, .inl xs)), (qy, .inl (cI, cx, .inl ys))] H := hP
      have hD : va_D A [(qt, .inl (cI, ct, .inl ta)), (qh, .inl (cI, ct, .inl he)), (qm, .inl (cI, ct, .inl ma)), (fa, .inr (3, fg_ kd pn pt qx qy qs pr (nI sl.length) qt qh (nI ml.length) qm qd)), (qx, .inl (cI, cx, .inl xs)), (qy, .inl (cI, cx, .inl ys))] := hD
      subst hw2
      refine lv_lstore (lv' := [(7, .long (sos_ xs ys tn hn x1 y1)), (6, .int (nI hn)), (5, .int (nI tn)), (4, .int (nI i)), (3, .int b), (0, .ref fa), (1, .int x1), (2, .int y1)]) hx hb dX3_whereIs_57 hl (by decide) rfl (fun ls hl => ?_)
      refine lv_lload hx hb dX3_whereIs_59 (lv_at hl 0 rfl) ?_
      refine lv_lconst (v := 0) hx hb dX3_whereIs_61 (by decide) ?_
      refine W.lcmp hx hb dX3_whereIs_62 ?_
      refine lv_if_ne (tgt := 84) hx hb dX3_whereIs_63 (by decide) (fun c3 => ?_) (fun c3 => ?_)
      · refine jnV (α := Int32) (ls := ls) (pc2 := 100) (fun v => v = bo_ (y1 < ys hn)) (fun v => [.int v]) (fun J => ?_) (fun v hv => ?_)
        · refine lv_aload_n hx hb dX3_whereIs_84 rfl (lv_at hl 5 rfl) ?_
          refine va_get (D := g) (ci := 3) (v := .ref qy) (C := RX3) (T := TX3) (N := 13) hx hb hts hiX3 hown hK hP 3 rfl rfl 4 (by decide) (hts (.fieldLink RX3 25 "ShapeRelator$Figure" "ys" "[I") (List.mem_of_getElem? (i := 4) rfl)) (fun _ h9 => h9) rfl dX3_whereIs_85 ?_
          refine lv_iload hx hb dX3_whereIs_88 (lv_at hl 1 rfl) ?_
          refine va_iald (D := g) hx hb hK hP 5 0 rfl rfl (vp_in_nI (e4) (by omega)) dX3_whereIs_90 ?_
          refine tpi_ (y := (ys hn)) (by rw [nI_clamp (by omega)]) ?_
          refine lv_iload_n hx hb dX3_whereIs_91 rfl (lv_at hl 7 rfl) ?_
          refine lv_icmp_le (tgt := 99) hx hb dX3_whereIs_92 (by decide) (fun c5 => ?_) (fun c5 => ?_)
          · refine lv_iconst (v := 0) hx hb dX3_whereIs_99 (by decide) ?_
            exact J _ (bo_f (Int32.not_lt.mpr c5))
          · refine lv_iconst (v := 1) hx hb dX3_whereIs_95 (by decide) ?_
            refine lv_goto (tgt := 100) hx hb dX3_whereIs_96 (by decide) ?_
            exact J _ (bo_t (Int32.not_le.mp c5))
        · subst hv
          refine lv_istore (lv' := [(9, .int (bo_ (y1 < ys hn))), (7, .long (sos_ xs ys tn hn x1 y1)), (6, .int (nI hn)), (5, .int (nI tn)), (4, .int (nI i)), (3, .int b), (0, .ref fa), (1, .int x1), (2, .int y1)]) hx hb dX3_whereIs_100 hl (by decide) rfl (fun ls hl => ?_)
          refine lv_iload hx hb dX3_whereIs_102 (lv_at hl 0 rfl) ?_
          refine jnV (α := Int32) (ls := ls) (pc2 := 120) (fun v => v = bo_ (y1 < ys tn)) (fun v => [.int v, .int (bo_ (y1 < ys hn))]) (fun J => ?_) (fun v hv => ?_)
          · refine lv_aload_n hx hb dX3_whereIs_104 rfl (lv_at hl 6 rfl) ?_
            refine va_get (D := g) (ci := 3) (v := .ref qy) (C := RX3) (T := TX3) (N := 13) hx hb hts hiX3 hown hK hP 3 rfl rfl 4 (by decide) (hts (.fieldLink RX3 25 "ShapeRelator$Figure" "ys" "[I") (List.mem_of_getElem? (i := 4) rfl)) (fun _ h9 => h9) rfl dX3_whereIs_105 ?_
            refine lv_iload hx hb dX3_whereIs_108 (lv_at hl 3 rfl) ?_
            refine va_iald (D := g) hx hb hK hP 5 0 rfl rfl (vp_in_nI (e3) (by omega)) dX3_whereIs_110 ?_
            refine tpi_ (y := (ys tn)) (by rw [nI_clamp (by omega)]) ?_
            refine lv_iload_n hx hb dX3_whereIs_111 rfl (lv_at hl 8 rfl) ?_
            refine lv_icmp_le (tgt := 119) hx hb dX3_whereIs_112 (by decide) (fun c5 => ?_) (fun c5 => ?_)
            · refine lv_iconst (v := 0) hx hb dX3_whereIs_119 (by decide) ?_
              exact J _ (bo_f (Int32.not_lt.mpr c5))
            · refine lv_iconst (v := 1) hx hb dX3_whereIs_115 (by decide) ?_
              refine lv_goto (tgt := 120) hx hb dX3_whereIs_116 (by decide) ?_
              exact J _ (bo_t (Int32.not_le.mp c5))
          · subst hv
            refine lv_icmp_eq (tgt := 150) hx hb dX3_whereIs_120 (by decide) (fun c6 => ?_) (fun c6 => ?_)
            · refine lv_iinc (v := (nI (i + 1))) (lv' := [(4, .int (nI (i + 1))), (9, .int (bo_ (y1 < ys hn))), (7, .long (sos_ xs ys tn hn x1 y1)), (6, .int (nI hn)), (5, .int (nI tn)), (3, .int b), (0, .ref fa), (1, .int x1), (2, .int y1)]) hx hb dX3_whereIs_150 hl (k := 4) rfl (nI_1 i) (by decide) rfl (fun ls hl => ?_)
              refine lv_goto (tgt := 20) hx hb dX3_whereIs_153 (by decide) ?_
              exact ih (i + 1, b) (by show sl.length - (i + 1) < sl.length - i; omega) H locs ls ⟨⟨e1, by rw [hi.2, e2, if_neg (fun h => c3 ((lg_cmp_eq _ _).mpr h.1))]; rw [tog1_ c6]⟩, (hP.sub [0, 1, 3, 4, 5, 2] rfl), (hD.sub [0, 1, 3, 4, 5, 2] (by decide) rfl), hS, (lv_sub hl [0, 5, 6, 7, 8] rfl)⟩
            · refine lv_iload hx hb dX3_whereIs_123 (lv_at hl 0 rfl) ?_
              refine jnV (α := Int32) (ls := ls) (pc2 := 137) (fun v => v = bo_ (0 < sos_ xs ys tn hn x1 y1)) (fun v => [.int v, .int (bo_ (y1 < ys hn))]) (fun J => ?_) (fun v hv => ?_)
              · refine lv_lload hx hb dX3_whereIs_125 (lv_at hl 1 rfl) ?_
                refine lv_lconst (v := 0) hx hb dX3_whereIs_127 (by decide) ?_
                refine W.lcmp hx hb dX3_whereIs_128 ?_
                refine lv_if_le (tgt := 136) hx hb dX3_whereIs_129 (by decide) (fun c7 => ?_) (fun c7 => ?_)
                · refine lv_iconst (v := 0) hx hb dX3_whereIs_136 (by decide) ?_
                  exact J _ (bo_f (fun h => Int64.not_le.mpr h ((lg_cmp_le _ _).mp c7)))
                · refine lv_iconst (v := 1) hx hb dX3_whereIs_132 (by decide) ?_
                  refine lv_goto (tgt := 137) hx hb dX3_whereIs_133 (by decide) ?_
                  exact J _ (bo_t (Int64.not_le.mp (fun h => c7 ((lg_cmp_le _ _).mpr h))))
              · subst hv
                refine lv_icmp_ne (tgt := 150) hx hb dX3_whereIs_137 (by decide) (fun c7 => ?_) (fun c7 => ?_)
                · refine lv_iinc (v := (nI (i + 1))) (lv' := [(4, .int (nI (i + 1))), (9, .int (bo_ (y1 < ys hn))), (7, .long (sos_ xs ys tn hn x1 y1)), (6, .int (nI hn)), (5, .int (nI tn)), (3, .int b), (0, .ref fa), (1, .int x1), (2, .int y1)]) hx hb dX3_whereIs_150 hl (k := 4) rfl (nI_1 i) (by decide) rfl (fun ls hl => ?_)
                  refine lv_goto (tgt := 20) hx hb dX3_whereIs_153 (by decide) ?_
                  exact ih (i + 1, b) (by show sl.length - (i + 1) < sl.length - i; omega) H locs ls ⟨⟨e1, by rw [hi.2, e2, if_neg (fun h => c3 ((lg_cmp_eq _ _).mpr h.1))]; rw [tog2_ c7]⟩, (hP.sub [0, 1, 3, 4, 5, 2] rfl), (hD.sub [0, 1, 3, 4, 5, 2] (by decide) rfl), hS, (lv_sub hl [0, 5, 6, 7, 8] rfl)⟩
                · refine lv_iload_n hx hb dX3_whereIs_140 rfl (lv_at hl 5 rfl) ?_
                  refine lv_if_ne (tgt := 148) hx hb dX3_whereIs_141 (by decide) (fun c8 => ?_) (fun c8 => ?_)
                  · refine lv_iconst (v := 0) hx hb dX3_whereIs_148 (by decide) ?_
                    refine lv_istore_n (lv' := [(3, .int 0), (9, .int (bo_ (y1 < ys hn))), (7, .long (sos_ xs ys tn hn x1 y1)), (6, .int (nI hn)), (5, .int (nI tn)), (4, .int (nI i)), (0, .ref fa), (1, .int x1), (2, .int y1)]) hx hb dX3_whereIs_149 rfl hl (by decide) rfl (fun ls hl => ?_)
                    refine lv_iinc (v := (nI (i + 1))) (lv' := [(4, .int (nI (i + 1))), (3, .int 0), (9, .int (bo_ (y1 < ys hn))), (7, .long (sos_ xs ys tn hn x1 y1)), (6, .int (nI hn)), (5, .int (nI tn)), (0, .ref fa), (1, .int x1), (2, .int y1)]) hx hb dX3_whereIs_150 hl (k := 5) rfl (nI_1 i) (by decide) rfl (fun ls hl => ?_)
                    refine lv_goto (tgt := 20) hx hb dX3_whereIs_153 (by decide) ?_
                    exact ih (i + 1, 0) (by show sl.length - (i + 1) < sl.length - i; omega) H locs ls ⟨⟨e1, by rw [hi.2, e2, if_neg (fun h => c3 ((lg_cmp_eq _ _).mpr h.1))]; rw [tog3_ c6 c7 c8]⟩, (hP.sub [0, 1, 3, 4, 5, 2] rfl), (hD.sub [0, 1, 3, 4, 5, 2] (by decide) rfl), hS, (lv_sub hl [0, 1, 6, 7, 8] rfl)⟩
                  · refine lv_iconst (v := 1) hx hb dX3_whereIs_144 (by decide) ?_
                    refine lv_goto (tgt := 149) hx hb dX3_whereIs_145 (by decide) ?_
                    refine lv_istore_n (lv' := [(3, .int 1), (9, .int (bo_ (y1 < ys hn))), (7, .long (sos_ xs ys tn hn x1 y1)), (6, .int (nI hn)), (5, .int (nI tn)), (4, .int (nI i)), (0, .ref fa), (1, .int x1), (2, .int y1)]) hx hb dX3_whereIs_149 rfl hl (by decide) rfl (fun ls hl => ?_)
                    refine lv_iinc (v := (nI (i + 1))) (lv' := [(4, .int (nI (i + 1))), (3, .int 1), (9, .int (bo_ (y1 < ys hn))), (7, .long (sos_ xs ys tn hn x1 y1)), (6, .int (nI hn)), (5, .int (nI tn)), (0, .ref fa), (1, .int x1), (2, .int y1)]) hx hb dX3_whereIs_150 hl (k := 5) rfl (nI_1 i) (by decide) rfl (fun ls hl => ?_)
                    refine lv_goto (tgt := 20) hx hb dX3_whereIs_153 (by decide) ?_
                    exact ih (i + 1, 1) (by show sl.length - (i + 1) < sl.length - i; omega) H locs ls ⟨⟨e1, by rw [hi.2, e2, if_neg (fun h => c3 ((lg_cmp_eq _ _).mpr h.1))]; rw [tog4_ c6 c7 c8]⟩, (hP.sub [0, 1, 3, 4, 5, 2] rfl), (hD.sub [0, 1, 3, 4, 5, 2] (by decide) rfl), hS, (lv_sub hl [0, 1, 6, 7, 8] rfl)⟩
      · refine lv_aload_n hx hb dX3_whereIs_66 rfl (lv_at hl 5 rfl) ?_
        refine lv_iload hx hb dX3_whereIs_67 (lv_at hl 2 rfl) ?_
        refine lv_iload hx hb dX3_whereIs_69 (lv_at hl 1 rfl) ?_
        refine lv_iload_n hx hb dX3_whereIs_71 rfl (lv_at hl 6 rfl) ?_
        refine lv_iload_n hx hb dX3_whereIs_72 rfl (lv_at hl 7 rfl) ?_
        have hPc := hP.sub (ws' := [(fa, .inr (3, fg_ kd pn pt qx qy qs pr (nI sl.length) qt qh (nI ml.length) qm qd)), (qx, .inl (cI, cx, .inl xs)), (qy, .inl (cI, cx, .inl ys))]) [3, 4, 5] rfl
        have hDc := hD.sub (ws' := [(fa, .inr (3, fg_ kd pn pt qx qy qs pr (nI sl.length) qt qh (nI ml.length) qm qd)), (qx, .inl (cI, cx, .inl xs)), (qy, .inl (cI, cx, .inl ys))]) [3, 4, 5] (by decide) rfl
        have hFc := va_free (wc := [(fa, .inr (3, fg_ kd pn pt qx qy qs pr (nI sl.length) qt qh (nI ml.length) qm qd)), (qx, .inl (cI, cx, .inl xs)), (qy, .inl (cI, cx, .inl ys))]) hD hS hA [3, 4, 5] rfl
        refine va_calli (va_runV (As := [.int (nI tn), .int (nI hn), .int x1, .int y1]) (rest := []) ⟨hx, hb, hml, hown, hts⟩ (kX3_isInBox l g cI cJ cZ H.size fa kd pn pt qx qy qs pr (nI sl.length) qt qh (nI ml.length) qm qd cx xs ys tn hn x1 y1 h2 e3 e4) (cwV 4 hts gX3_whereIs_X3_isInBox rfl rfl rfl (by decide +kernel) ⟨Nat.le_of_ble_eq_true rfl, Nat.le_of_ble_eq_true rfl⟩) (pv_ hK hPc hDc (va_recv hK hPc (ci := 3) (q0 := 0) rfl rfl)) rfl rfl hl.1 rfl (lv_room (Nat.le_of_ble_eq_true rfl)) dX3_whereIs_73 ⟨Nat.zero_le _, Nat.zero_le _⟩) hS (fun q _ h => hFc q h) hFc (fun r3 u t H1 locs ht hvm hw3 hB hz1 hk1 hS => ?_)
        obtain ⟨hP1, hK1, hD1⟩ := hB
        rw [ht] at hP1
        obtain ⟨hP, hD⟩ := va_join (wr := [(qt, .inl (cI, ct, .inl ta)), (qh, .inl (cI, ct, .inl he)), (qm, .inl (cI, ct, .inl ma))]) (w1 := [(fa, .inr (3, fg_ kd pn pt qx qy qs pr (nI sl.length) qt qh (nI ml.length) qm qd)), (qx, .inl (cI, cx, .inl xs)), (qy, .inl (cI, cx, .inl ys))]) hP hD [3, 4, 5] [0, 1, 2] rfl rfl (by decide) (by decide) hk1 hFc hP1 hD1
        clear hPc hDc hFc hP1 hD1 hK1 hk1 hz1 hvm ht
        generalize H1 = H at hP hS ⊢
        have hP : va_P g vwCl [(qt, .inl (cI, ct, .inl ta)), (qh, .inl (cI, ct, .inl he)), (qm, .inl (cI, ct, .inl ma)), (fa, .inr (3, fg_ kd pn pt qx qy qs pr (nI sl.length) qt qh (nI ml.length) qm qd)), (qx, .inl (cI, cx, .inl xs)), (qy, .inl (cI, cx, .inl ys))] H := hP
        have hD : va_D A [(qt, .inl (cI, ct, .inl ta)), (qh, .inl (cI, ct, .inl he)), (qm, .inl (cI, ct, .inl ma)), (fa, .inr (3, fg_ kd pn pt qx qy qs pr (nI sl.length) qt qh (nI ml.length) qm qd)), (qx, .inl (cI, cx, .inl xs)), (qy, .inl (cI, cx, .inl ys))] := hD
        refine lv_if_eq (tgt := 84) hx hb dX3_whereIs_76 (by decide) (fun c4 => ?_) (fun c4 => ?_)
        · refine jnV (α := Int32) (ls := ls) (pc2 := 100) (fun v => v = bo_ (y1 < ys hn)) (fun v => [.int v]) (fun J => ?_) (fun v hv => ?_)
          · refine lv_aload_n hx hb dX3_whereIs_84 rfl (lv_at hl 5 rfl) ?_
            refine va_get (D := g) (ci := 3) (v := .ref qy) (C := RX3) (T := TX3) (N := 13) hx hb hts hiX3 hown hK hP 3 rfl rfl 4 (by decide) (hts (.fieldLink RX3 25 "ShapeRelator$Figure" "ys" "[I") (List.mem_of_getElem? (i := 4) rfl)) (fun _ h9 => h9) rfl dX3_whereIs_85 ?_
            refine lv_iload hx hb dX3_whereIs_88 (lv_at hl 1 rfl) ?_
            refine va_iald (D := g) hx hb hK hP 5 0 rfl rfl (vp_in_nI (e4) (by omega)) dX3_whereIs_90 ?_
            refine tpi_ (y := (ys hn)) (by rw [nI_clamp (by omega)]) ?_
            refine lv_iload_n hx hb dX3_whereIs_91 rfl (lv_at hl 7 rfl) ?_
            refine lv_icmp_le (tgt := 99) hx hb dX3_whereIs_92 (by decide) (fun c5 => ?_) (fun c5 => ?_)
            · refine lv_iconst (v := 0) hx hb dX3_whereIs_99 (by decide) ?_
              exact J _ (bo_f (Int32.not_lt.mpr c5))
            · refine lv_iconst (v := 1) hx hb dX3_whereIs_95 (by decide) ?_
              refine lv_goto (tgt := 100) hx hb dX3_whereIs_96 (by decide) ?_
              exact J _ (bo_t (Int32.not_le.mp c5))
          · subst hv
            refine lv_istore (lv' := [(9, .int (bo_ (y1 < ys hn))), (7, .long (sos_ xs ys tn hn x1 y1)), (6, .int (nI hn)), (5, .int (nI tn)), (4, .int (nI i)), (3, .int b), (0, .ref fa), (1, .int x1), (2, .int y1)]) hx hb dX3_whereIs_100 hl (by decide) rfl (fun ls hl => ?_)
            refine lv_iload hx hb dX3_whereIs_102 (lv_at hl 0 rfl) ?_
            refine jnV (α := Int32) (ls := ls) (pc2 := 120) (fun v => v = bo_ (y1 < ys tn)) (fun v => [.int v, .int (bo_ (y1 < ys hn))]) (fun J => ?_) (fun v hv => ?_)
            · refine lv_aload_n hx hb dX3_whereIs_104 rfl (lv_at hl 6 rfl) ?_
              refine va_get (D := g) (ci := 3) (v := .ref qy) (C := RX3) (T := TX3) (N := 13) hx hb hts hiX3 hown hK hP 3 rfl rfl 4 (by decide) (hts (.fieldLink RX3 25 "ShapeRelator$Figure" "ys" "[I") (List.mem_of_getElem? (i := 4) rfl)) (fun _ h9 => h9) rfl dX3_whereIs_105 ?_
              refine lv_iload hx hb dX3_whereIs_108 (lv_at hl 3 rfl) ?_
              refine va_iald (D := g) hx hb hK hP 5 0 rfl rfl (vp_in_nI (e3) (by omega)) dX3_whereIs_110 ?_
              refine tpi_ (y := (ys tn)) (by rw [nI_clamp (by omega)]) ?_
              refine lv_iload_n hx hb dX3_whereIs_111 rfl (lv_at hl 8 rfl) ?_
              refine lv_icmp_le (tgt := 119) hx hb dX3_whereIs_112 (by decide) (fun c5 => ?_) (fun c5 => ?_)
              · refine lv_iconst (v := 0) hx hb dX3_whereIs_119 (by decide) ?_
                exact J _ (bo_f (Int32.not_lt.mpr c5))
              · refine lv_iconst (v := 1) hx hb dX3_whereIs_115 (by decide) ?_
                refine lv_goto (tgt := 120) hx hb dX3_whereIs_116 (by decide) ?_
                exact J _ (bo_t (Int32.not_le.mp c5))
            · subst hv
              refine lv_icmp_eq (tgt := 150) hx hb dX3_whereIs_120 (by decide) (fun c6 => ?_) (fun c6 => ?_)
              · refine lv_iinc (v := (nI (i + 1))) (lv' := [(4, .int (nI (i + 1))), (9, .int (bo_ (y1 < ys hn))), (7, .long (sos_ xs ys tn hn x1 y1)), (6, .int (nI hn)), (5, .int (nI tn)), (3, .int b), (0, .ref fa), (1, .int x1), (2, .int y1)]) hx hb dX3_whereIs_150 hl (k := 4) rfl (nI_1 i) (by decide) rfl (fun ls hl => ?_)
                refine lv_goto (tgt := 20) hx hb dX3_whereIs_153 (by decide) ?_
                exact ih (i + 1, b) (by show sl.length - (i + 1) < sl.length - i; omega) H locs ls ⟨⟨e1, by rw [hi.2, e2, if_neg (fun h => h.2 (by rw [← hw3]; exact c4))]; rw [tog1_ c6]⟩, (hP.sub [0, 1, 3, 4, 5, 2] rfl), (hD.sub [0, 1, 3, 4, 5, 2] (by decide) rfl), hS, (lv_sub hl [0, 5, 6, 7, 8] rfl)⟩
              · refine lv_iload hx hb dX3_whereIs_123 (lv_at hl 0 rfl) ?_
                refine jnV (α := Int32) (ls := ls) (pc2 := 137) (fun v => v = bo_ (0 < sos_ xs ys tn hn x1 y1)) (fun v => [.int v, .int (bo_ (y1 < ys hn))]) (fun J => ?_) (fun v hv => ?_)
                · refine lv_lload hx hb dX3_whereIs_125 (lv_at hl 1 rfl) ?_
                  refine lv_lconst (v := 0) hx hb dX3_whereIs_127 (by decide) ?_
                  refine W.lcmp hx hb dX3_whereIs_128 ?_
                  refine lv_if_le (tgt := 136) hx hb dX3_whereIs_129 (by decide) (fun c7 => ?_) (fun c7 => ?_)
                  · refine lv_iconst (v := 0) hx hb dX3_whereIs_136 (by decide) ?_
                    exact J _ (bo_f (fun h => Int64.not_le.mpr h ((lg_cmp_le _ _).mp c7)))
                  · refine lv_iconst (v := 1) hx hb dX3_whereIs_132 (by decide) ?_
                    refine lv_goto (tgt := 137) hx hb dX3_whereIs_133 (by decide) ?_
                    exact J _ (bo_t (Int64.not_le.mp (fun h => c7 ((lg_cmp_le _ _).mpr h))))
                · subst hv
                  refine lv_icmp_ne (tgt := 150) hx hb dX3_whereIs_137 (by decide) (fun c7 => ?_) (fun c7 => ?_)
                  · refine lv_iinc (v := (nI (i + 1))) (lv' := [(4, .int (nI (i + 1))), (9, .int (bo_ (y1 < ys hn))), (7, .long (sos_ xs ys tn hn x1 y1)), (6, .int (nI hn)), (5, .int (nI tn)), (3, .int b), (0, .ref fa), (1, .int x1), (2, .int y1)]) hx hb dX3_whereIs_150 hl (k := 4) rfl (nI_1 i) (by decide) rfl (fun ls hl => ?_)
                    refine lv_goto (tgt := 20) hx hb dX3_whereIs_153 (by decide) ?_
                    exact ih (i + 1, b) (by show sl.length - (i + 1) < sl.length - i; omega) H locs ls ⟨⟨e1, by rw [hi.2, e2, if_neg (fun h => h.2 (by rw [← hw3]; exact c4))]; rw [tog2_ c7]⟩, (hP.sub [0, 1, 3, 4, 5, 2] rfl), (hD.sub [0, 1, 3, 4, 5, 2] (by decide) rfl), hS, (lv_sub hl [0, 5, 6, 7, 8] rfl)⟩
                  · refine lv_iload_n hx hb dX3_whereIs_140 rfl (lv_at hl 5 rfl) ?_
                    refine lv_if_ne (tgt := 148) hx hb dX3_whereIs_141 (by decide) (fun c8 => ?_) (fun c8 => ?_)
                    · refine lv_iconst (v := 0) hx hb dX3_whereIs_148 (by decide) ?_
                      refine lv_istore_n (lv' := [(3, .int 0), (9, .int (bo_ (y1 < ys hn))), (7, .long (sos_ xs ys tn hn x1 y1)), (6, .int (nI hn)), (5, .int (nI tn)), (4, .int (nI i)), (0, .ref fa), (1, .int x1), (2, .int y1)]) hx hb dX3_whereIs_149 rfl hl (by decide) rfl (fun ls hl => ?_)
                      refine lv_iinc (v := (nI (i + 1))) (lv' := [(4, .int (nI (i + 1))), (3, .int 0), (9, .int (bo_ (y1 < ys hn))), (7, .long (sos_ xs ys tn hn x1 y1)), (6, .int (nI hn)), (5, .int (nI tn)), (0, .ref fa), (1, .int x1), (2, .int y1)]) hx hb dX3_whereIs_150 hl (k := 5) rfl (nI_1 i) (by decide) rfl (fun ls hl => ?_)
                      refine lv_goto (tgt := 20) hx hb dX3_whereIs_153 (by decide) ?_
                      exact ih (i + 1, 0) (by show sl.length - (i + 1) < sl.length - i; omega) H locs ls ⟨⟨e1, by rw [hi.2, e2, if_neg (fun h => h.2 (by rw [← hw3]; exact c4))]; rw [tog3_ c6 c7 c8]⟩, (hP.sub [0, 1, 3, 4, 5, 2] rfl), (hD.sub [0, 1, 3, 4, 5, 2] (by decide) rfl), hS, (lv_sub hl [0, 1, 6, 7, 8] rfl)⟩
                    · refine lv_iconst (v := 1) hx hb dX3_whereIs_144 (by decide) ?_
                      refine lv_goto (tgt := 149) hx hb dX3_whereIs_145 (by decide) ?_
                      refine lv_istore_n (lv' := [(3, .int 1), (9, .int (bo_ (y1 < ys hn))), (7, .long (sos_ xs ys tn hn x1 y1)), (6, .int (nI hn)), (5, .int (nI tn)), (4, .int (nI i)), (0, .ref fa), (1, .int x1), (2, .int y1)]) hx hb dX3_whereIs_149 rfl hl (by decide) rfl (fun ls hl => ?_)
                      refine lv_iinc (v := (nI (i + 1))) (lv' := [(4, .int (nI (i + 1))), (3, .int 1), (9, .int (bo_ (y1 < ys hn))), (7, .long (sos_ xs ys tn hn x1 y1)), (6, .int (nI hn)), (5, .int (nI tn)), (0, .ref fa), (1, .int x1), (2, .int y1)]) hx hb dX3_whereIs_150 hl (k := 5) rfl (nI_1 i) (by decide) rfl (fun ls hl => ?_)
                      refine lv_goto (tgt := 20) hx hb dX3_whereIs_153 (by decide) ?_
                      exact ih (i + 1, 1) (by show sl.length - (i + 1) < sl.length - i; omega) H locs ls ⟨⟨e1, by rw [hi.2, e2, if_neg (fun h => h.2 (by rw [← hw3]; exact c4))]; rw [tog4_ c6 c7 c8]⟩, (hP.sub [0, 1, 3, 4, 5, 2] rfl), (hD.sub [0, 1, 3, 4, 5, 2] (by decide) rfl), hS, (lv_sub hl [0, 1, 6, 7, 8] rfl)⟩
        · refine lv_aload_n hx hb dX3_whereIs_79 rfl (lv_at hl 5 rfl) ?_
          have hPc := hP.sub (ws' := [(fa, .inr (3, fg_ kd pn pt qx qy qs pr (nI sl.length) qt qh (nI ml.length) qm qd))]) [3] rfl
          have hDc := hD.sub (ws' := [(fa, .inr (3, fg_ kd pn pt qx qy qs pr (nI sl.length) qt qh (nI ml.length) qm qd))]) [3] (by decide) rfl
          have hFc := va_free (wc := [(fa, .inr (3, fg_ kd pn pt qx qy qs pr (nI sl.length) qt qh (nI ml.length) qm qd))]) hD hS hA [3] rfl
          refine va_calli (va_runV (As := []) (rest := []) ⟨hx, hb, hml, hown, hts⟩ (kX3_placeOnSegment l g cI cJ cZ H.size fa kd pn pt qx qy qs pr (nI sl.length) qt qh (nI ml.length) qm qd) (cwV 0 hts gX3_whereIs_X3_placeOnSegment rfl rfl rfl (by decide +kernel) ⟨Nat.le_of_ble_eq_true rfl, Nat.le_of_ble_eq_true rfl⟩) (pv_ hK hPc hDc (va_recv hK hPc (ci := 3) (q0 := 0) rfl rfl)) rfl rfl hl.1 rfl (lv_room (Nat.le_of_ble_eq_true rfl)) dX3_whereIs_80 ⟨Nat.zero_le _, Nat.zero_le _⟩) hS (fun q _ h => hFc q h) hFc (fun r_2 u t H1 locs ht hvm hw4 hB hz1 hk1 hS => ?_)
          obtain ⟨hP1, hK1, hD1⟩ := hB
          rw [ht] at hP1
          obtain ⟨hP, hD⟩ := va_join (wr := [(qt, .inl (cI, ct, .inl ta)), (qh, .inl (cI, ct, .inl he)), (qm, .inl (cI, ct, .inl ma)), (qx, .inl (cI, cx, .inl xs)), (qy, .inl (cI, cx, .inl ys))]) (w1 := [(fa, .inr (3, fg_ kd pn pt qx qy qs pr (nI sl.length) qt qh (nI ml.length) qm qd))]) hP hD [3] [0, 1, 2, 4, 5] rfl rfl (by decide) (by decide) hk1 hFc hP1 hD1
          clear hPc hDc hFc hP1 hD1 hK1 hk1 hz1 hvm ht
          generalize H1 = H at hP hS ⊢
          have hP : va_P g vwCl [(qt, .inl (cI, ct, .inl ta)), (qh, .inl (cI, ct, .inl he)), (qm, .inl (cI, ct, .inl ma)), (qx, .inl (cI, cx, .inl xs)), (qy, .inl (cI, cx, .inl ys)), (fa, .inr (3, fg_ kd pn pt qx qy qs pr (nI sl.length) qt qh (nI ml.length) qm qd))] H := hP
          have hD : va_D A [(qt, .inl (cI, ct, .inl ta)), (qh, .inl (cI, ct, .inl he)), (qm, .inl (cI, ct, .inl ma)), (qx, .inl (cI, cx, .inl xs)), (qy, .inl (cI, cx, .inl ys)), (fa, .inr (3, fg_ kd pn pt qx qy qs pr (nI sl.length) qt qh (nI ml.length) qm qd))] := hD
          have hP9 := hP.sub (ws' := [(fa, .inr (3, fg_ kd pn pt qx qy qs pr (nI sl.length) qt qh (nI ml.length) qm qd)), (qx, .inl (cI, cx, .inl xs)), (qy, .inl (cI, cx, .inl ys)), (qt, .inl (cI, ct, .inl ta)), (qh, .inl (cI, ct, .inl he)), (qm, .inl (cI, ct, .inl ma))]) [5, 3, 4, 0, 1, 2] rfl
          have hD9 := hD.sub (ws' := [(fa, .inr (3, fg_ kd pn pt qx qy qs pr (nI sl.length) qt qh (nI ml.length) qm qd)), (qx, .inl (cI, cx, .inl xs)), (qy, .inl (cI, cx, .inl ys)), (qt, .inl (cI, ct, .inl ta)), (qh, .inl (cI, ct, .inl he)), (qm, .inl (cI, ct, .inl ma))]) [5, 3, 4, 0, 1, 2] (by decide) rfl
          exact W.iret (v := r_2) hx hb hr (fun t ht hW => ⟨⟨r_2, (), rfl, by rw [hw4]; unfold whs_; rw [if_pos c1, hi.2, e2, if_pos ⟨(lg_cmp_eq _ _).mp c3, by rw [← hw3]; exact c4⟩], by rw [ht]; exact hP9, va_K.moved hW.alike hK, hD9⟩, hS.F ht⟩) hS.2.2 dX3_whereIs_83
  · rw [hw1] at c1
    refine lv_aload_n hx hb dX3_whereIs_10 rfl (lv_at hl 0 rfl) ?_
    have hPc := hP.sub (ws' := [(fa, .inr (3, fg_ kd pn pt qx qy qs pr (nI sl.length) qt qh (nI ml.length) qm qd))]) [2] rfl
    have hDc := hD.sub (ws' := [(fa, .inr (3, fg_ kd pn pt qx qy qs pr (nI sl.length) qt qh (nI ml.length) qm qd))]) [2] (by decide) rfl
    have hFc := va_free (wc := [(fa, .inr (3, fg_ kd pn pt qx qy qs pr (nI sl.length) qt qh (nI ml.length) qm qd))]) hD hS hA [2] rfl
    refine va_calli (va_runV (As := []) (rest := []) ⟨hx, hb, hml, hown, hts⟩ (kX3_placeOnMark l g cI cJ cZ H.size fa kd pn pt qx qy qs pr (nI sl.length) qt qh (nI ml.length) qm qd) (cwV 0 hts gX3_whereIs_X3_placeOnMark rfl rfl rfl (by decide +kernel) ⟨Nat.le_of_ble_eq_true rfl, Nat.le_of_ble_eq_true rfl⟩) (pv_ hK hPc hDc (va_recv hK hPc (ci := 3) (q0 := 0) rfl rfl)) rfl rfl hl.1 rfl (lv_room (Nat.le_of_ble_eq_true rfl)) dX3_whereIs_11 ⟨Nat.zero_le _, Nat.zero_le _⟩) hS (fun q _ h => hFc q h) hFc (fun r_3 u t H1 locs ht hvm hw2 hB hz1 hk1 hS => ?_)
    obtain ⟨hP1, hK1, hD1⟩ := hB
    rw [ht] at hP1
    obtain ⟨hP, hD⟩ := va_join (wr := [(qt, .inl (cI, ct, .inl ta)), (qh, .inl (cI, ct, .inl he)), (qx, .inl (cI, cx, .inl xs)), (qy, .inl (cI, cx, .inl ys)), (qm, .inl (cI, ct, .inl ma))]) (w1 := [(fa, .inr (3, fg_ kd pn pt qx qy qs pr (nI sl.length) qt qh (nI ml.length) qm qd))]) hP hD [2] [0, 1, 3, 4, 5] rfl rfl (by decide) (by decide) hk1 hFc hP1 hD1
    clear hPc hDc hFc hP1 hD1 hK1 hk1 hz1 hvm ht
    generalize H1 = H at hP hS ⊢
    have hP : va_P g vwCl [(qt, .inl (cI, ct, .inl ta)), (qh, .inl (cI, ct, .inl he)), (qx, .inl (cI, cx, .inl xs)), (qy, .inl (cI, cx, .inl ys)), (qm, .inl (cI, ct, .inl ma)), (fa, .inr (3, fg_ kd pn pt qx qy qs pr (nI sl.length) qt qh (nI ml.length) qm qd))] H := hP
    have hD : va_D A [(qt, .inl (cI, ct, .inl ta)), (qh, .inl (cI, ct, .inl he)), (qx, .inl (cI, cx, .inl xs)), (qy, .inl (cI, cx, .inl ys)), (qm, .inl (cI, ct, .inl ma)), (fa, .inr (3, fg_ kd pn pt qx qy qs pr (nI sl.length) qt qh (nI ml.length) qm qd))] := hD
    have hP9 := hP.sub (ws' := [(fa, .inr (3, fg_ kd pn pt qx qy qs pr (nI sl.length) qt qh (nI ml.length) qm qd)), (qx, .inl (cI, cx, .inl xs)), (qy, .inl (cI, cx, .inl ys)), (qt, .inl (cI, ct, .inl ta)), (qh, .inl (cI, ct, .inl he)), (qm, .inl (cI, ct, .inl ma))]) [5, 2, 3, 0, 1, 4] rfl
    have hD9 := hD.sub (ws' := [(fa, .inr (3, fg_ kd pn pt qx qy qs pr (nI sl.length) qt qh (nI ml.length) qm qd)), (qx, .inl (cI, cx, .inl xs)), (qy, .inl (cI, cx, .inl ys)), (qt, .inl (cI, ct, .inl ta)), (qh, .inl (cI, ct, .inl he)), (qm, .inl (cI, ct, .inl ma))]) [5, 2, 3, 0, 1, 4] (by decide) rfl
    exact W.iret (v := r_3) hx hb hr (fun t ht hW => ⟨⟨r_3, (), rfl, by rw [hw2]; unfold whs_; rw [if_neg c1], by rw [ht]; exact hP9, va_K.moved hW.alike hK, hD9⟩, hS.F ht⟩) hS.2.2 dX3_whereIs_14
end
