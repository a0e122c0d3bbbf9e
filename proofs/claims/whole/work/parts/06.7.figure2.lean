section
theorem ikX3_beginAnew_X3 : ∀ w ∈ wsX30, w ∈ wsX3_beginAnew := by decide +kernel
set_option maxHeartbeats 1000000 in
set_option maxRecDepth 100000 in
theorem kX3_beginAnew (l : Launch) (g : va_G) (cI cJ cZ : ClassId) (sz : Nat) (fa : Nat) (kd : Int32) (pn : Int32) (pt : Int32) (qx : Nat) (qy : Nat) (qs : Nat) (pr : Int32) (sc : Int32) (qt : Nat) (qh : Nat) (mn : Int32) (qm : Nat) (qd : Nat) (k1 : Int32)  : Met l yX3_beginAnew wsX3_beginAnew ({ frames := 0, cells := 0, slots := 0, locals := 0 }) (pc_ g cI cJ cZ [.ref fa, .int k1] [(fa, .inr (3, fg_ kd pn pt qx qy qs pr sc qt qh mn qm qd))] sz) (va_Qv (fun (_ : Unit) => True) (fun (_ : Unit) t => wd_ g cI cJ cZ (va_A [(fa, .inr (3, fg_ kd pn pt qx qy qs pr sc qt qh mn qm qd))] sz) [(fa, .inr (3, fg_ k1 0 0 qx qy qs 0 sc qt qh mn qm qd))] t) (va_A [(fa, .inr (3, fg_ kd pn pt qx qy qs pr sc qt qh mn qm qd))] sz)) (0) (0) (va_A [(fa, .inr (3, fg_ kd pn pt qx qy qs pr sc qt qh mn qm qd))] sz) := by
  refine Met.ofW (cc := cX3_beginAnew) (maxL := 2) (ret := none) (by decide) rfl ?_
  intro p e s m args below meth c s₁ B hml hv
  obtain ⟨rfl, hsz, hP, hK, hD0⟩ := hv
  have hx := B.exec
  have hb := B.bytes
  have hr := B.returns
  have hts := atoms_spec (ws := wsX3_beginAnew) B.pre
  have hown : s.vm.findClass RX3 = some m.cls := findClass_of_methodNamed B.named
  have hlocks := B.notSynchronized
  subst hsz
  have hD := hD0.self (sz := s.heap.size)
  generalize hAe : va_A [(fa, .inr (3, fg_ kd pn pt qx qy qs pr sc qt qh mn qm qd))] s.heap.size = A at hD ⊢
  have hA : ∀ q : Nat, s.heap.size ≤ q → A q := fun q h => by rw [← hAe]; exact Or.inr h
  have hS : va_S A s.heap s.heap [] := va_S.rf
  have hP : va_P g vwCl [(fa, .inr (3, fg_ kd pn pt qx qy qs pr sc qt qh mn qm qd))] s.heap := hP
  have hl := lv_entry ([.ref fa, .int k1]) (n := 2) (Nat.le_of_ble_eq_true rfl)
  rw [lg_entry_eq]
  generalize (lg_sl ([.ref fa, .int k1]) ++ List.replicate (2 - (lg_sl ([.ref fa, .int k1])).length) Slot.unset).toArray = ls at hl ⊢
  have hl : lv_has ls 2 [(0, .ref fa), (1, .int k1)] := hl
  have hH0 : s.heap = s.heap := rfl
  have hiX3 := ikX3_beginAnew_X3
  refine lv_aload_n hx hb dX3_beginAnew_0 rfl (lv_at hl 0 rfl) ?_
  refine lv_iload_n hx hb dX3_beginAnew_1 rfl (lv_at hl 1 rfl) ?_
  refine va_put (D := g) (ci := 3) (v := .int k1) (ty := .int) (C := RX3) (T := TX3) (N := 13) hx hb hts hiX3 tyX3 tyX3_ok nmX3 hown hK hP hD hS 0 rfl rfl 0 (by decide) (hts (.fieldLink RX3 9 "ShapeRelator$Figure" "kind" "I") (List.mem_of_getElem? (i := 1) rfl)) (fun _ h9 => h9) rfl (by decide +kernel) rfl rfl (Nat.le_of_ble_eq_true rfl) dX3_beginAnew_2 (fun H locs hP hD hS => ?_)
  have hP : va_P g vwCl [(fa, .inr (3, fg_ k1 pn pt qx qy qs pr sc qt qh mn qm qd))] H := hP
  have hD : va_D A [(fa, .inr (3, fg_ k1 pn pt qx qy qs pr sc qt qh mn qm qd))] := hD
  refine lv_aload_n hx hb dX3_beginAnew_5 rfl (lv_at hl 0 rfl) ?_
  refine lv_iconst (v := 0) hx hb dX3_beginAnew_6 (by decide) ?_
  refine va_put (D := g) (ci := 3) (v := .int 0) (ty := .int) (C := RX3) (T := TX3) (N := 13) hx hb hts hiX3 tyX3 tyX3_ok nmX3 hown hK hP hD hS 0 rfl rfl 1 (by decide) (hts (.fieldLink RX3 15 "ShapeRelator$Figure" "partCount" "I") (List.mem_of_getElem? (i := 2) rfl)) (fun _ h9 => h9) rfl (by decide +kernel) rfl rfl (Nat.le_of_ble_eq_true rfl) dX3_beginAnew_7 (fun H locs hP hD hS => ?_)
  have hP : va_P g vwCl [(fa, .inr (3, fg_ k1 0 pt qx qy qs pr sc qt qh mn qm qd))] H := hP
  have hD : va_D A [(fa, .inr (3, fg_ k1 0 pt qx qy qs pr sc qt qh mn qm qd))] := hD
  refine lv_aload_n hx hb dX3_beginAnew_10 rfl (lv_at hl 0 rfl) ?_
  refine lv_iconst (v := 0) hx hb dX3_beginAnew_11 (by decide) ?_
  refine va_put (D := g) (ci := 3) (v := .int 0) (ty := .int) (C := RX3) (T := TX3) (N := 13) hx hb hts hiX3 tyX3 tyX3_ok nmX3 hown hK hP hD hS 0 rfl rfl 2 (by decide) (hts (.fieldLink RX3 18 "ShapeRelator$Figure" "pointCount" "I") (List.mem_of_getElem? (i := 3) rfl)) (fun _ h9 => h9) rfl (by decide +kernel) rfl rfl (Nat.le_of_ble_eq_true rfl) dX3_beginAnew_12 (fun H locs hP hD hS => ?_)
  have hP : va_P g vwCl [(fa, .inr (3, fg_ k1 0 0 qx qy qs pr sc qt qh mn qm qd))] H := hP
  have hD : va_D A [(fa, .inr (3, fg_ k1 0 0 qx qy qs pr sc qt qh mn qm qd))] := hD
  refine lv_aload_n hx hb dX3_beginAnew_15 rfl (lv_at hl 0 rfl) ?_
  refine lv_iconst (v := 0) hx hb dX3_beginAnew_16 (by decide) ?_
  refine va_put (D := g) (ci := 3) (v := .int 0) (ty := .boolean) (C := RX3) (T := TX3) (N := 13) hx hb hts hiX3 tyX3 tyX3_ok nmX3 hown hK hP hD hS 0 rfl rfl 6 (by decide) (hts (.fieldLink RX3 31 "ShapeRelator$Figure" "prepared" "Z") (List.mem_of_getElem? (i := 4) rfl)) (fun _ h9 => h9) rfl (by decide +kernel) (by decide +kernel) (by decide +kernel) (Nat.le_of_ble_eq_true rfl) dX3_beginAnew_17 (fun H locs hP hD hS => ?_)
  have hP : va_P g vwCl [(fa, .inr (3, fg_ k1 0 0 qx qy qs 0 sc qt qh mn qm qd))] H := hP
  have hD : va_D A [(fa, .inr (3, fg_ k1 0 0 qx qy qs 0 sc qt qh mn qm qd))] := hD
  have hP9 := hP.sub (ws' := [(fa, .inr (3, fg_ k1 0 0 qx qy qs 0 sc qt qh mn qm qd))]) [0] rfl
  have hD9 := hD.sub (ws' := [(fa, .inr (3, fg_ k1 0 0 qx qy qs 0 sc qt qh mn qm qd))]) [0] (by decide) rfl
  exact W.vret hx hb hr (fun t ht hW => ⟨⟨(), rfl, trivial, by rw [ht]; exact hP9, va_K.moved hW.alike hK, hD9⟩, hS.F ht⟩) hS.2.2 dX3_beginAnew_20

theorem ikX3_beginPart_X3 : ∀ w ∈ wsX30, w ∈ wsX3_beginPart := by decide +kernel
set_option maxHeartbeats 1000000 in
set_option maxRecDepth 100000 in
theorem kX3_beginPart (l : Launch) (g : va_G) (cI cJ cZ : ClassId) (sz : Nat) (fa : Nat) (kd : Int32) (pt : Int32) (qx : Nat) (qy : Nat) (qs : Nat) (pr : Int32) (sc : Int32) (qt : Nat) (qh : Nat) (mn : Int32) (qm : Nat) (qd : Nat) (cp : Nat) (st : Nat → Int32) (k : Nat) (h1 : cp < 100000) (h2 : k ≤ cp) (h0 : 0 < cp) : Met l yX3_beginPart wsX3_beginPart ({ frames := 2, cells := 1, slots := 2 * cp, locals := 82 }) (pc_ g cI cJ cZ [.ref fa] [(fa, .inr (3, fg_ kd (nI k) pt qx qy qs pr sc qt qh mn qm qd)), (qs, .inl (cI, cp, .inl st))] sz) (va_Qv (fun (st2 : (Nat → Int32)) => (∀ i, i < k → st2 i = st i) ∧ st2 k = pt) (fun (st2 : (Nat → Int32)) t => ∃ (qs2 : Nat), wd_ g cI cJ cZ (va_A [(fa, .inr (3, fg_ kd (nI k) pt qx qy qs pr sc qt qh mn qm qd)), (qs, .inl (cI, cp, .inl st))] sz) [(fa, .inr (3, fg_ kd (nI (k + 1)) pt qx qy qs2 0 sc qt qh mn qm qd)), (qs2, .inl (cI, gcap_ k cp, .inl st2))] t) (va_A [(fa, .inr (3, fg_ kd (nI k) pt qx qy qs pr sc qt qh mn qm qd)), (qs, .inl (cI, cp, .inl st))] sz)) (1) (2 * cp) (va_A [(fa, .inr (3, fg_ kd (nI k) pt qx qy qs pr sc qt qh mn qm qd)), (qs, .inl (cI, cp, .inl st))] sz) := by
  refine Met.ofW (cc := cX3_beginPart) (maxL := 1) (ret := none) (by decide) rfl ?_
  intro p e s m args below meth c s₁ B hml hv
  obtain ⟨rfl, hsz, hP, hK, hD0⟩ := hv
  have hx := B.exec
  have hb := B.bytes
  have hr := B.returns
  have hts := atoms_spec (ws := wsX3_beginPart) B.pre
  have hown : s.vm.findClass RX3 = some m.cls := findClass_of_methodNamed B.named
  have hlocks := B.notSynchronized
  subst hsz
  have hD := hD0.self (sz := s.heap.size)
  generalize hAe : va_A [(fa, .inr (3, fg_ kd (nI k) pt qx qy qs pr sc qt qh mn qm qd)), (qs, .inl (cI, cp, .inl st))] s.heap.size = A at hD ⊢
  have hA : ∀ q : Nat, s.heap.size ≤ q → A q := fun q h => by rw [← hAe]; exact Or.inr h
  have hS : va_S A s.heap s.heap [] := va_S.rf
  have hP : va_P g vwCl [(fa, .inr (3, fg_ kd (nI k) pt qx qy qs pr sc qt qh mn qm qd)), (qs, .inl (cI, cp, .inl st))] s.heap := hP
  have hl := lv_entry ([.ref fa]) (n := 1) (Nat.le_of_ble_eq_true rfl)
  rw [lg_entry_eq]
  generalize (lg_sl ([.ref fa]) ++ List.replicate (1 - (lg_sl ([.ref fa])).length) Slot.unset).toArray = ls at hl ⊢
  have hl : lv_has ls 1 [(0, .ref fa)] := hl
  have hH0 : s.heap = s.heap := rfl
  have hiX3 := ikX3_beginPart_X3
  refine lv_aload_n hx hb dX3_beginPart_0 rfl (lv_at hl 0 rfl) ?_
  refine va_get (D := g) (ci := 3) (v := .int (nI k)) (C := RX3) (T := TX3) (N := 13) hx hb hts hiX3 hown hK hP 0 rfl rfl 1 (by decide) (hts (.fieldLink RX3 15 "ShapeRelator$Figure" "partCount" "I") (List.mem_of_getElem? (i := 1) rfl)) (fun _ h9 => h9) rfl dX3_beginPart_1 ?_
  refine lv_aload_n hx hb dX3_beginPart_4 rfl (lv_at hl 0 rfl) ?_
  refine va_get (D := g) (ci := 3) (v := .ref qs) (C := RX3) (T := TX3) (N := 13) hx hb hts hiX3 hown hK hP 0 rfl rfl 5 (by decide) (hts (.fieldLink RX3 28 "ShapeRelator$Figure" "partStarts" "[I") (List.mem_of_getElem? (i := 2) rfl)) (fun _ h9 => h9) rfl dX3_beginPart_5 ?_
  refine va_alen (D := g) (v := nI cp) hx hb hK hP 1 0 rfl rfl rfl dX3_beginPart_8 ?_
  refine lv_icmp_ne (tgt := 29) hx hb dX3_beginPart_9 (by decide) (fun c1 => ?_) (fun c1 => ?_)
  · have q1 : k < cp := Nat.lt_of_le_of_ne h2 (fun h => c1 (by rw [h]))
    refine lv_aload_n hx hb dX3_beginPart_29 rfl (lv_at hl 0 rfl) ?_
    refine va_get (D := g) (ci := 3) (v := .ref qs) (C := RX3) (T := TX3) (N := 13) hx hb hts hiX3 hown hK hP 0 rfl rfl 5 (by decide) (hts (.fieldLink RX3 28 "ShapeRelator$Figure" "partStarts" "[I") (List.mem_of_getElem? (i := 2) rfl)) (fun _ h9 => h9) rfl dX3_beginPart_30 ?_
    refine lv_aload_n hx hb dX3_beginPart_33 rfl (lv_at hl 0 rfl) ?_
    refine va_get (D := g) (ci := 3) (v := .int (nI k)) (C := RX3) (T := TX3) (N := 13) hx hb hts hiX3 hown hK hP 0 rfl rfl 1 (by decide) (hts (.fieldLink RX3 15 "ShapeRelator$Figure" "partCount" "I") (List.mem_of_getElem? (i := 1) rfl)) (fun _ h9 => h9) rfl dX3_beginPart_34 ?_
    refine lv_aload_n hx hb dX3_beginPart_37 rfl (lv_at hl 0 rfl) ?_
    refine va_get (D := g) (ci := 3) (v := .int pt) (C := RX3) (T := TX3) (N := 13) hx hb hts hiX3 hown hK hP 0 rfl rfl 2 (by decide) (hts (.fieldLink RX3 18 "ShapeRelator$Figure" "pointCount" "I") (List.mem_of_getElem? (i := 3) rfl)) (fun _ h9 => h9) rfl dX3_beginPart_38 ?_
    refine va_iast (D := g) hx hb hK hP hD hS 1 0 rfl rfl (vp_in_nI (show k < cp by omega) (by omega)) dX3_beginPart_41 (fun H locs hP hD hS => ?_)
    rw [nI_clamp (show k < 2 ^ 31 by omega)] at hP hD
    have hP : va_P g vwCl [(fa, .inr (3, fg_ kd (nI k) pt qx qy qs pr sc qt qh mn qm qd)), (qs, .inl (cI, cp, .inl (upd st k pt)))] H := hP
    have hD : va_D A [(fa, .inr (3, fg_ kd (nI k) pt qx qy qs pr sc qt qh mn qm qd)), (qs, .inl (cI, cp, .inl (upd st k pt)))] := hD
    refine lv_aload_n hx hb dX3_beginPart_42 rfl (lv_at hl 0 rfl) ?_
    refine lv_dup hx hb dX3_beginPart_43 rfl ?_
    refine va_get (D := g) (ci := 3) (v := .int (nI k)) (C := RX3) (T := TX3) (N := 13) hx hb hts hiX3 hown hK hP 0 rfl rfl 1 (by decide) (hts (.fieldLink RX3 15 "ShapeRelator$Figure" "partCount" "I") (List.mem_of_getElem? (i := 1) rfl)) (fun _ h9 => h9) rfl dX3_beginPart_44 ?_
    refine lv_iconst (v := 1) hx hb dX3_beginPart_47 (by decide) ?_
    refine lv_iadd hx hb dX3_beginPart_48 ?_
    refine tpi_ (y := (nI (k + 1))) ((nI_1 k).symm) ?_
    refine va_put (D := g) (ci := 3) (v := .int (nI (k + 1))) (ty := .int) (C := RX3) (T := TX3) (N := 13) hx hb hts hiX3 tyX3 tyX3_ok nmX3 hown hK hP hD hS 0 rfl rfl 1 (by decide) (hts (.fieldLink RX3 15 "ShapeRelator$Figure" "partCount" "I") (List.mem_of_getElem? (i := 1) rfl)) (fun _ h9 => h9) rfl (by decide +kernel) rfl rfl (Nat.le_of_ble_eq_true rfl) dX3_beginPart_49 (fun H locs hP hD hS => ?_)
    have hP : va_P g vwCl [(fa, .inr (3, fg_ kd (nI (k + 1)) pt qx qy qs pr sc qt qh mn qm qd)), (qs, .inl (cI, cp, .inl (upd st k pt)))] H := hP
    have hD : va_D A [(fa, .inr (3, fg_ kd (nI (k + 1)) pt qx qy qs pr sc qt qh mn qm qd)), (qs, .inl (cI, cp, .inl (upd st k pt)))] := hD
    refine lv_aload_n hx hb dX3_beginPart_52 rfl (lv_at hl 0 rfl) ?_
    refine lv_iconst (v := 0) hx hb dX3_beginPart_53 (by decide) ?_
    refine va_put (D := g) (ci := 3) (v := .int 0) (ty := .boolean) (C := RX3) (T := TX3) (N := 13) hx hb hts hiX3 tyX3 tyX3_ok nmX3 hown hK hP hD hS 0 rfl rfl 6 (by decide) (hts (.fieldLink RX3 31 "ShapeRelator$Figure" "prepared" "Z") (List.mem_of_getElem? (i := 4) rfl)) (fun _ h9 => h9) rfl (by decide +kernel) (by decide +kernel) (by decide +kernel) (Nat.le_of_ble_eq_true rfl) dX3_beginPart_54 (fun H locs hP hD hS => ?_)
    have hP : va_P g vwCl [(fa, .inr (3, fg_ kd (nI (k + 1)) pt qx qy qs 0 sc qt qh mn qm qd)), (qs, .inl (cI, cp, .inl (upd st k pt)))] H := hP
    have hD : va_D A [(fa, .inr (3, fg_ kd (nI (k + 1)) pt qx qy qs 0 sc qt qh mn qm qd)), (qs, .inl (cI, cp, .inl (upd st k pt)))] := hD
    have en : cp = gcap_ k cp := by unfold gcap_; rw [if_neg (by omega)]
    rw [en] at hP hD
    have hP : va_P g vwCl [(fa, .inr (3, fg_ kd (nI (k + 1)) pt qx qy qs 0 sc qt qh mn qm qd)), (qs, .inl (cI, gcap_ k cp, .inl (upd st k pt)))] H := hP
    have hD : va_D A [(fa, .inr (3, fg_ kd (nI (k + 1)) pt qx qy qs 0 sc qt qh mn qm qd)), (qs, .inl (cI, gcap_ k cp, .inl (upd st k pt)))] := hD
    refine W.widen (k := 1) (n := (2 * cp)) (by omega) (by omega) ?_
    have hP9 := hP.sub (ws' := [(fa, .inr (3, fg_ kd (nI (k + 1)) pt qx qy qs 0 sc qt qh mn qm qd)), (qs, .inl (cI, gcap_ k cp, .inl (upd st k pt)))]) [0, 1] rfl
    have hD9 := hD.sub (ws' := [(fa, .inr (3, fg_ kd (nI (k + 1)) pt qx qy qs 0 sc qt qh mn qm qd)), (qs, .inl (cI, gcap_ k cp, .inl (upd st k pt)))]) [0, 1] (by decide) rfl
    exact W.vret hx hb hr (fun t ht hW => ⟨⟨upd st k pt, rfl, ⟨fun i hi => pk_un (by omega), pk_us⟩, qs, by rw [ht]; exact hP9, va_K.moved hW.alike hK, hD9⟩, hS.F ht⟩) hS.2.2 dX3_beginPart_57
  · have q1 : k = cp := (nI_eq (by omega) (by omega)).mp c1
    refine lv_aload_n hx hb dX3_beginPart_12 rfl (lv_at hl 0 rfl) ?_
    refine lv_aload_n hx hb dX3_beginPart_13 rfl (lv_at hl 0 rfl) ?_
    refine va_get (D := g) (ci := 3) (v := .ref qs) (C := RX3) (T := TX3) (N := 13) hx hb hts hiX3 hown hK hP 0 rfl rfl 5 (by decide) (hts (.fieldLink RX3 28 "ShapeRelator$Figure" "partStarts" "[I") (List.mem_of_getElem? (i := 2) rfl)) (fun _ h9 => h9) rfl dX3_beginPart_14 ?_
    refine lv_iconst (v := 2) hx hb dX3_beginPart_17 (by decide) ?_
    refine lv_aload_n hx hb dX3_beginPart_18 rfl (lv_at hl 0 rfl) ?_
    refine va_get (D := g) (ci := 3) (v := .int (nI k)) (C := RX3) (T := TX3) (N := 13) hx hb hts hiX3 hown hK hP 0 rfl rfl 1 (by decide) (hts (.fieldLink RX3 15 "ShapeRelator$Figure" "partCount" "I") (List.mem_of_getElem? (i := 1) rfl)) (fun _ h9 => h9) rfl dX3_beginPart_19 ?_
    refine lv_imul hx hb dX3_beginPart_22 ?_
    refine tpi_ (y := (nI (2 * k))) (by rw [← pk_mul]; rfl) ?_
    have hPc := hP.sub (ws' := [(qs, .inl (cI, cp, .inl st))]) [1] rfl
    have hDc := hD.sub (ws' := [(qs, .inl (cI, cp, .inl st))]) [1] (by decide) rfl
    have hFc := va_free (wc := [(qs, .inl (cI, cp, .inl st))]) hD hS hA [1] rfl
    refine va_callr (va_runS (As := [.ref qs, .int (nI (2 * k))]) (rest := [.ref fa]) ⟨hx, hb, hml, hown, hts⟩ (kJ7_copyOf_59c91 l g cI cJ cZ s.heap.size qs cp st (2 * k) (show cp < 2 * k by omega) (show 2 * k < 1000000 by omega)) (va_cwS 2 hts gX3_beginPart_J7_copyOf_59c91 rfl rfl rfl (by decide +kernel) ⟨Nat.le_of_ble_eq_true rfl, Nat.le_of_ble_eq_true rfl⟩) (ps_ hK hPc hDc) rfl rfl hl.1 rfl (lv_room (Nat.le_of_ble_eq_true rfl)) dX3_beginPart_23 ⟨by show 0 + 1 ≤ 1; omega, by show 0 + (2 * k) ≤ 2 * cp; omega⟩) hS (fun q _ h => hFc q h) hFc (fun u qa t H1 locs ht hvm hw hB hz1 hk1 hS => ?_)
    obtain ⟨hP1, hK1, hD1⟩ := hB
    rw [ht] at hP1
    obtain ⟨hP, hD⟩ := va_join (wr := [(fa, .inr (3, fg_ kd (nI k) pt qx qy qs pr sc qt qh mn qm qd))]) (w1 := [(qs, .inl (cI, cp, .inl st)), (qa, .inl (cI, (2 * k), .inl (va_cpy st (fun _ => 0) 0 0 cp)))]) hP hD [1] [0] rfl rfl (by decide) (by decide) hk1 hFc hP1 hD1
    clear hPc hDc hFc hP1 hD1 hK1 hk1 hz1 hvm ht
    generalize H1 = H at hP hS ⊢
    have hP : va_P g vwCl [(fa, .inr (3, fg_ kd (nI k) pt qx qy qs pr sc qt qh mn qm qd)), (qs, .inl (cI, cp, .inl st)), (qa, .inl (cI, (2 * k), .inl (va_cpy st (fun _ => 0) 0 0 cp)))] H := hP
    have hD : va_D A [(fa, .inr (3, fg_ kd (nI k) pt qx qy qs pr sc qt qh mn qm qd)), (qs, .inl (cI, cp, .inl st)), (qa, .inl (cI, (2 * k), .inl (va_cpy st (fun _ => 0) 0 0 cp)))] := hD
    refine va_put (D := g) (ci := 3) (v := .ref qa) (ty := .array .int) (C := RX3) (T := TX3) (N := 13) hx hb hts hiX3 tyX3 tyX3_ok nmX3 hown hK hP hD hS 0 rfl rfl 5 (by decide) (hts (.fieldLink RX3 28 "ShapeRelator$Figure" "partStarts" "[I") (List.mem_of_getElem? (i := 2) rfl)) (fun _ h9 => h9) rfl (by decide +kernel) rfl rfl (Nat.le_of_ble_eq_true rfl) dX3_beginPart_26 (fun H locs hP hD hS => ?_)
    have hP : va_P g vwCl [(fa, .inr (3, fg_ kd (nI k) pt qx qy qa pr sc qt qh mn qm qd)), (qs, .inl (cI, cp, .inl st)), (qa, .inl (cI, (2 * k), .inl (va_cpy st (fun _ => 0) 0 0 cp)))] H := hP
    have hD : va_D A [(fa, .inr (3, fg_ kd (nI k) pt qx qy qa pr sc qt qh mn qm qd)), (qs, .inl (cI, cp, .inl st)), (qa, .inl (cI, (2 * k), .inl (va_cpy st (fun _ => 0) 0 0 cp)))] := hD
    refine lv_aload_n hx hb dX3_beginPart_29 rfl (lv_at hl 0 rfl) ?_
    refine va_get (D := g) (ci := 3) (v := .ref qa) (C := RX3) (T := TX3) (N := 13) hx hb hts hiX3 hown hK hP 0 rfl rfl 5 (by decide) (hts (.fieldLink RX3 28 "ShapeRelator$Figure" "partStarts" "[I") (List.mem_of_getElem? (i := 2) rfl)) (fun _ h9 => h9) rfl dX3_beginPart_30 ?_
    refine lv_aload_n hx hb dX3_beginPart_33 rfl (lv_at hl 0 rfl) ?_
    refine va_get (D := g) (ci := 3) (v := .int (nI k)) (C := RX3) (T := TX3) (N := 13) hx hb hts hiX3 hown hK hP 0 rfl rfl 1 (by decide) (hts (.fieldLink RX3 15 "ShapeRelator$Figure" "partCount" "I") (List.mem_of_getElem? (i := 1) rfl)) (fun _ h9 => h9) rfl dX3_beginPart_34 ?_
    refine lv_aload_n hx hb dX3_beginPart_37 rfl (lv_at hl 0 rfl) ?_
    refine va_get (D := g) (ci := 3) (v := .int pt) (C := RX3) (T := TX3) (N := 13) hx hb hts hiX3 hown hK hP 0 rfl rfl 2 (by decide) (hts (.fieldLink RX3 18 "ShapeRelator$Figure" "pointCount" "I") (List.mem_of_getElem? (i := 3) rfl)) (fun _ h9 => h9) rfl dX3_beginPart_38 ?_
    refine va_iast (D := g) hx hb hK hP hD hS 2 0 rfl rfl (vp_in_nI (show k < 2 * k by omega) (by omega)) dX3_beginPart_41 (fun H locs hP hD hS => ?_)
    rw [nI_clamp (show k < 2 ^ 31 by omega)] at hP hD
    have hP : va_P g vwCl [(fa, .inr (3, fg_ kd (nI k) pt qx qy qa pr sc qt qh mn qm qd)), (qs, .inl (cI, cp, .inl st)), (qa, .inl (cI, (2 * k), .inl (upd (va_cpy st (fun _ => 0) 0 0 cp) k pt)))] H := hP
    have hD : va_D A [(fa, .inr (3, fg_ kd (nI k) pt qx qy qa pr sc qt qh mn qm qd)), (qs, .inl (cI, cp, .inl st)), (qa, .inl (cI, (2 * k), .inl (upd (va_cpy st (fun _ => 0) 0 0 cp) k pt)))] := hD
    refine lv_aload_n hx hb dX3_beginPart_42 rfl (lv_at hl 0 rfl) ?_
    refine lv_dup hx hb dX3_beginPart_43 rfl ?_
    refine va_get (D := g) (ci := 3) (v := .int (nI k)) (C := RX3) (T := TX3) (N := 13) hx hb hts hiX3 hown hK hP 0 rfl rfl 1 (by decide) (hts (.fieldLink RX3 15 "ShapeRelator$Figure" "partCount" "I") (List.mem_of_getElem? (i := 1) rfl)) (fun _ h9 => h9) rfl dX3_beginPart_44 ?_
    refine lv_iconst (v := 1) hx hb dX3_beginPart_47 (by decide) ?_
    refine lv_iadd hx hb dX3_beginPart_48 ?_
    refine tpi_ (y := (nI (k + 1))) ((nI_1 k).symm) ?_
    refine va_put (D := g) (ci := 3) (v := .int (nI (k + 1))) (ty := .int) (C := RX3) (T := TX3) (N := 13) hx hb hts hiX3 tyX3 tyX3_ok nmX3 hown hK hP hD hS 0 rfl rfl 1 (by decide) (hts (.fieldLink RX3 15 "ShapeRelator$Figure" "partCount" "I") (List.mem_of_getElem? (i := 1) rfl)) (fun _ h9 => h9) rfl (by decide +kernel) rfl rfl (Nat.le_of_ble_eq_true rfl) dX3_beginPart_49 (fun H locs hP hD hS => ?_)
    have hP : va_P g vwCl [(fa, .inr (3, fg_ kd (nI (k + 1)) pt qx qy qa pr sc qt qh mn qm qd)), (qs, .inl (cI, cp, .inl st)), (qa, .inl (cI, (2 * k), .inl (upd (va_cpy st (fun _ => 0) 0 0 cp) k pt)))] H := hP
    have hD : va_D A [(fa, .inr (3, fg_ kd (nI (k + 1)) pt qx qy qa pr sc qt qh mn qm qd)), (qs, .inl (cI, cp, .inl st)), (qa, .inl (cI, (2 * k), .inl (upd (va_cpy st (fun _ => 0) 0 0 cp) k pt)))] := hD
    refine lv_aload_n hx hb dX3_beginPart_52 rfl (lv_at hl 0 rfl) ?_
    refine lv_iconst (v := 0) hx hb dX3_beginPart_53 (by decide) ?_
    refine va_put (D := g) (ci := 3) (v := .int 0) (ty := .boolean) (C := RX3) (T := TX3) (N := 13) hx hb hts hiX3 tyX3 tyX3_ok nmX3 hown hK hP hD hS 0 rfl rfl 6 (by decide) (hts (.fieldLink RX3 31 "ShapeRelator$Figure" "prepared" "Z") (List.mem_of_getElem? (i := 4) rfl)) (fun _ h9 => h9) rfl (by decide +kernel) (by decide +kernel) (by decide +kernel) (Nat.le_of_ble_eq_true rfl) dX3_beginPart_54 (fun H locs hP hD hS => ?_)
    have hP : va_P g vwCl [(fa, .inr (3, fg_ kd (nI (k + 1)) pt qx qy qa 0 sc qt qh mn qm qd)), (qs, .inl (cI, cp, .inl st)), (qa, .inl (cI, (2 * k), .inl (upd (va_cpy st (fun _ => 0) 0 0 cp) k pt)))] H := hP
    have hD : va_D A [(fa, .inr (3, fg_ kd (nI (k + 1)) pt qx qy qa 0 sc qt qh mn qm qd)), (qs, .inl (cI, cp, .inl st)), (qa, .inl (cI, (2 * k), .inl (upd (va_cpy st (fun _ => 0) 0 0 cp) k pt)))] := hD
    have en : 2 * k = gcap_ k cp := by unfold gcap_; rw [if_pos q1]
    rw [en] at hP hD
    have hP : va_P g vwCl [(fa, .inr (3, fg_ kd (nI (k + 1)) pt qx qy qa 0 sc qt qh mn qm qd)), (qs, .inl (cI, cp, .inl st)), (qa, .inl (cI, gcap_ k cp, .inl (upd (va_cpy st (fun _ => 0) 0 0 cp) k pt)))] H := hP
    have hD : va_D A [(fa, .inr (3, fg_ kd (nI (k + 1)) pt qx qy qa 0 sc qt qh mn qm qd)), (qs, .inl (cI, cp, .inl st)), (qa, .inl (cI, gcap_ k cp, .inl (upd (va_cpy st (fun _ => 0) 0 0 cp) k pt)))] := hD
    refine W.widen (k := 1) (n := (2 * cp)) (by omega) (by omega) ?_
    have hP9 := hP.sub (ws' := [(fa, .inr (3, fg_ kd (nI (k + 1)) pt qx qy qa 0 sc qt qh mn qm qd)), (qa, .inl (cI, gcap_ k cp, .inl (upd (va_cpy st (fun _ => 0) 0 0 cp) k pt)))]) [0, 2] rfl
    have hD9 := hD.sub (ws' := [(fa, .inr (3, fg_ kd (nI (k + 1)) pt qx qy qa 0 sc qt qh mn qm qd)), (qa, .inl (cI, gcap_ k cp, .inl (upd (va_cpy st (fun _ => 0) 0 0 cp) k pt)))]) [0, 2] (by decide) rfl
    exact W.vret hx hb hr (fun t ht hW => ⟨⟨upd (va_cpy st (fun _ => 0) 0 0 cp) k pt, rfl, ⟨fun i hi => (pk_un (by omega)).trans (cpy_ (by omega)), pk_us⟩, qa, by rw [ht]; exact hP9, va_K.moved hW.alike hK, hD9⟩, hS.F ht⟩) hS.2.2 dX3_beginPart_57

theorem ikX3_addPoint_X3 : ∀ w ∈ wsX30, w ∈ wsX3_addPoint := by decide +kernel
set_option maxHeartbeats 1000000 in
set_option maxRecDepth 100000 in
theorem kX3_addPoint (l : Launch) (g : va_G) (cI cJ cZ : ClassId) (sz : Nat) (fa : Nat) (kd : Int32) (pn : Int32) (qx : Nat) (qy : Nat) (qs : Nat) (pr : Int32) (sc : Int32) (qt : Nat) (qh : Nat) (mn : Int32) (qm : Nat) (qd : Nat) (cx : Nat) (xs : Nat → Int32) (ys : Nat → Int32) (k : Nat) (x1 : Int32) (y1 : Int32) (h1 : cx < 100000) (h2 : k ≤ cx) (h0 : 0 < cx) : Met l yX3_addPoint wsX3_addPoint ({ frames := 2, cells := 2, slots := 4 * cx, locals := 82 }) (pc_ g cI cJ cZ [.ref fa, .int x1, .int y1] [(fa, .inr (3, fg_ kd pn (nI k) qx qy qs pr sc qt qh mn qm qd)), (qx, .inl (cI, cx, .inl xs)), (qy, .inl (cI, cx, .inl ys))] sz) (va_Qv (fun (u : (Nat → Int32) × (Nat → Int32)) => match u with | (xs2, ys2) => (∀ i, i < k → xs2 i = xs i ∧ ys2 i = ys i) ∧ xs2 k = x1 ∧ ys2 k = y1) (fun (u : (Nat → Int32) × (Nat → Int32)) t => match u with | (xs2, ys2) => ∃ (qx2 : Nat) (qy2 : Nat), wd_ g cI cJ cZ (va_A [(fa, .inr (3, fg_ kd pn (nI k) qx qy qs pr sc qt qh mn qm qd)), (qx, .inl (cI, cx, .inl xs)), (qy, .inl (cI, cx, .inl ys))] sz) [(fa, .inr (3, fg_ kd pn (nI (k + 1)) qx2 qy2 qs 0 sc qt qh mn qm qd)), (qx2, .inl (cI, gcap_ k cx, .inl xs2)), (qy2, .inl (cI, gcap_ k cx, .inl ys2))] t) (va_A [(fa, .inr (3, fg_ kd pn (nI k) qx qy qs pr sc qt qh mn qm qd)), (qx, .inl (cI, cx, .inl xs)), (qy, .inl (cI, cx, .inl ys))] sz)) (2) (4 * cx) (va_A [(fa, .inr (3, fg_ kd pn (nI k) qx qy qs pr sc qt qh mn qm qd)), (qx, .inl (cI, cx, .inl xs)), (qy, .inl (cI, cx, .inl ys))] sz) := by
  refine Met.ofW (cc := cX3_addPoint) (maxL := 3) (ret := none) (by decide) rfl ?_
  intro p e s m args below meth c s₁ B hml hv
  obtain ⟨rfl, hsz, hP, hK, hD0⟩ := hv
  have hx := B.exec
  have hb := B.bytes
  have hr := B.returns
  have hts := atoms_spec (ws := wsX3_addPoint) B.pre
  have hown : s.vm.findClass RX3 = some m.cls := findClass_of_methodNamed B.named
  have hlocks := B.notSynchronized
  subst hsz
  have hD := hD0.self (sz := s.heap.size)
  generalize hAe : va_A [(fa, .inr (3, fg_ kd pn (nI k) qx qy qs pr sc qt qh mn qm qd)), (qx, .inl (cI, cx, .inl xs)), (qy, .inl (cI, cx, .inl ys))] s.heap.size = A at hD ⊢
  have hA : ∀ q : Nat, s.heap.size ≤ q → A q := fun q h => by rw [← hAe]; exact Or.inr h
  have hS : va_S A s.heap s.heap [] := va_S.rf
  have hP : va_P g vwCl [(fa, .inr (3, fg_ kd pn (nI k) qx qy qs pr sc qt qh mn qm qd)), (qx, .inl (cI, cx, .inl xs)), (qy, .inl (cI, cx, .inl ys))] s.heap := hP
  have hl := lv_entry ([.ref fa, .int x1, .int y1]) (n := 3) (Nat.le_of_ble_eq_true rfl)
  rw [lg_entry_eq]
  generalize (lg_sl ([.ref fa, .int x1, .int y1]) ++ List.replicate (3 - (lg_sl ([.ref fa, .int x1, .int y1])).length) Slot.unset).toArray = ls at hl ⊢
  have hl : lv_has ls 3 [(0, .ref fa), (1, .int x1), (2, .int y1)] := hl
  have hH0 : s.heap = s.heap := rfl
  have hiX3 := ikX3_addPoint_X3
  refine lv_aload_n hx hb dX3_addPoint_0 rfl (lv_at hl 0 rfl) ?_
  refine va_get (D := g) (ci := 3) (v := .int (nI k)) (C := RX3) (T := TX3) (N := 13) hx hb hts hiX3 hown hK hP 0 rfl rfl 2 (by decide) (hts (.fieldLink RX3 18 "ShapeRelator$Figure" "pointCount" "I") (List.mem_of_getElem? (i := 1) rfl)) (fun _ h9 => h9) rfl dX3_addPoint_1 ?_
  refine lv_aload_n hx hb dX3_addPoint_4 rfl (lv_at hl 0 rfl) ?_
  refine va_get (D := g) (ci := 3) (v := .ref qx) (C := RX3) (T := TX3) (N := 13) hx hb hts hiX3 hown hK hP 0 rfl rfl 3 (by decide) (hts (.fieldLink RX3 21 "ShapeRelator$Figure" "xs" "[I") (List.mem_of_getElem? (i := 2) rfl)) (fun _ h9 => h9) rfl dX3_addPoint_5 ?_
  refine va_alen (D := g) (v := nI cx) hx hb hK hP 1 0 rfl rfl rfl dX3_addPoint_8 ?_
  refine lv_icmp_ne (tgt := 46) hx hb dX3_addPoint_9 (by decide) (fun c1 => ?_) (fun c1 => ?_)
  · have q1 : k < cx := Nat.lt_of_le_of_ne h2 (fun h => c1 (by rw [h]))
    refine lv_aload_n hx hb dX3_addPoint_46 rfl (lv_at hl 0 rfl) ?_
    refine va_get (D := g) (ci := 3) (v := .ref qx) (C := RX3) (T := TX3) (N := 13) hx hb hts hiX3 hown hK hP 0 rfl rfl 3 (by decide) (hts (.fieldLink RX3 21 "ShapeRelator$Figure" "xs" "[I") (List.mem_of_getElem? (i := 2) rfl)) (fun _ h9 => h9) rfl dX3_addPoint_47 ?_
    refine lv_aload_n hx hb dX3_addPoint_50 rfl (lv_at hl 0 rfl) ?_
    refine va_get (D := g) (ci := 3) (v := .int (nI k)) (C := RX3) (T := TX3) (N := 13) hx hb hts hiX3 hown hK hP 0 rfl rfl 2 (by decide) (hts (.fieldLink RX3 18 "ShapeRelator$Figure" "pointCount" "I") (List.mem_of_getElem? (i := 1) rfl)) (fun _ h9 => h9) rfl dX3_addPoint_51 ?_
    refine lv_iload_n hx hb dX3_addPoint_54 rfl (lv_at hl 1 rfl) ?_
    refine va_iast (D := g) hx hb hK hP hD hS 1 0 rfl rfl (vp_in_nI (show k < cx by omega) (by omega)) dX3_addPoint_55 (fun H locs hP hD hS => ?_)
    rw [nI_clamp (show k < 2 ^ 31 by omega)] at hP hD
    have hP : va_P g vwCl [(fa, .inr (3, fg_ kd pn (nI k) qx qy qs pr sc qt qh mn qm qd)), (qx, .inl (cI, cx, .inl (upd xs k x1))), (qy, .inl (cI, cx, .inl ys))] H := hP
    have hD : va_D A [(fa, .inr (3, fg_ kd pn (nI k) qx qy qs pr sc qt qh mn qm qd)), (qx, .inl (cI, cx, .inl (upd xs k x1))), (qy, .inl (cI, cx, .inl ys))] := hD
    refine lv_aload_n hx hb dX3_addPoint_56 rfl (lv_at hl 0 rfl) ?_
    refine va_get (D := g) (ci := 3) (v := .ref qy) (C := RX3) (T := TX3) (N := 13) hx hb hts hiX3 hown hK hP 0 rfl rfl 4 (by decide) (hts (.fieldLink RX3 25 "ShapeRelator$Figure" "ys" "[I") (List.mem_of_getElem? (i := 3) rfl)) (fun _ h9 => h9) rfl dX3_addPoint_57 ?_
    refine lv_aload_n hx hb dX3_addPoint_60 rfl (lv_at hl 0 rfl) ?_
    refine va_get (D := g) (ci := 3) (v := .int (nI k)) (C := RX3) (T := TX3) (N := 13) hx hb hts hiX3 hown hK hP 0 rfl rfl 2 (by decide) (hts (.fieldLink RX3 18 "ShapeRelator$Figure" "pointCount" "I") (List.mem_of_getElem? (i := 1) rfl)) (fun _ h9 => h9) rfl dX3_addPoint_61 ?_
    refine lv_iload_n hx hb dX3_addPoint_64 rfl (lv_at hl 2 rfl) ?_
    refine va_iast (D := g) hx hb hK hP hD hS 2 0 rfl rfl (vp_in_nI (show k < cx by omega) (by omega)) dX3_addPoint_65 (fun H locs hP hD hS => ?_)
    rw [nI_clamp (show k < 2 ^ 31 by omega)] at hP hD
    have hP : va_P g vwCl [(fa, .inr (3, fg_ kd pn (nI k) qx qy qs pr sc qt qh mn qm qd)), (qx, .inl (cI, cx, .inl (upd xs k x1))), (qy, .inl (cI, cx, .inl (upd ys k y1)))] H := hP
    have hD : va_D A [(fa, .inr (3, fg_ kd pn (nI k) qx qy qs pr sc qt qh mn qm qd)), (qx, .inl (cI, cx, .inl (upd xs k x1))), (qy, .inl (cI, cx, .inl (upd ys k y1)))] := hD
    refine lv_aload_n hx hb dX3_addPoint_66 rfl (lv_at hl 0 rfl) ?_
    refine lv_dup hx hb dX3_addPoint_67 rfl ?_
    refine va_get (D := g) (ci := 3) (v := .int (nI k)) (C := RX3) (T := TX3) (N := 13) hx hb hts hiX3 hown hK hP 0 rfl rfl 2 (by decide) (hts (.fieldLink RX3 18 "ShapeRelator$Figure" "pointCount" "I") (List.mem_of_getElem? (i := 1) rfl)) (fun _ h9 => h9) rfl dX3_addPoint_68 ?_
    refine lv_iconst (v := 1) hx hb dX3_addPoint_71 (by decide) ?_
    refine lv_iadd hx hb dX3_addPoint_72 ?_
    refine tpi_ (y := (nI (k + 1))) ((nI_1 k).symm) ?_
    refine va_put (D := g) (ci := 3) (v := .int (nI (k + 1))) (ty := .int) (C := RX3) (T := TX3) (N := 13) hx hb hts hiX3 tyX3 tyX3_ok nmX3 hown hK hP hD hS 0 rfl rfl 2 (by decide) (hts (.fieldLink RX3 18 "ShapeRelator$Figure" "pointCount" "I") (List.mem_of_getElem? (i := 1) rfl)) (fun _ h9 => h9) rfl (by decide +kernel) rfl rfl (Nat.le_of_ble_eq_true rfl) dX3_addPoint_73 (fun H locs hP hD hS => ?_)
    have hP : va_P g vwCl [(fa, .inr (3, fg_ kd pn (nI (k + 1)) qx qy qs pr sc qt qh mn qm qd)), (qx, .inl (cI, cx, .inl (upd xs k x1))), (qy, .inl (cI, cx, .inl (upd ys k y1)))] H := hP
    have hD : va_D A [(fa, .inr (3, fg_ kd pn (nI (k + 1)) qx qy qs pr sc qt qh mn qm qd)), (qx, .inl (cI, cx, .inl (upd xs k x1))), (qy, .inl (cI, cx, .inl (upd ys k y1)))] := hD
    refine lv_aload_n hx hb dX3_addPoint_76 rfl (lv_at hl 0 rfl) ?_
    refine lv_iconst (v := 0) hx hb dX3_addPoint_77 (by decide) ?_
    refine va_put (D := g) (ci := 3) (v := .int 0) (ty := .boolean) (C := RX3) (T := TX3) (N := 13) hx hb hts hiX3 tyX3 tyX3_ok nmX3 hown hK hP hD hS 0 rfl rfl 6 (by decide) (hts (.fieldLink RX3 31 "ShapeRelator$Figure" "prepared" "Z") (List.mem_of_getElem? (i := 4) rfl)) (fun _ h9 => h9) rfl (by decide +kernel) (by decide +kernel) (by decide +kernel) (Nat.le_of_ble_eq_true rfl) dX3_addPoint_78 (fun H locs hP hD hS => ?_)
    have hP : va_P g vwCl [(fa, .inr (3, fg_ kd pn (nI (k + 1)) qx qy qs 0 sc qt qh mn qm qd)), (qx, .inl (cI, cx, .inl (upd xs k x1))), (qy, .inl (cI, cx, .inl (upd ys k y1)))] H := hP
    have hD : va_D A [(fa, .inr (3, fg_ kd pn (nI (k + 1)) qx qy qs 0 sc qt qh mn qm qd)), (qx, .inl (cI, cx, .inl (upd xs k x1))), (qy, .inl (cI, cx, .inl (upd ys k y1)))] := hD
    have en : cx = gcap_ k cx := by unfold gcap_; rw [if_neg (by omega)]
    rw [en] at hP hD
    have hP : va_P g vwCl [(fa, .inr (3, fg_ kd pn (nI (k + 1)) qx qy qs 0 sc qt qh mn qm qd)), (qx, .inl (cI, gcap_ k cx, .inl (upd xs k x1))), (qy, .inl (cI, gcap_ k cx, .inl (upd ys k y1)))] H := hP
    have hD : va_D A [(fa, .inr (3, fg_ kd pn (nI (k + 1)) qx qy qs 0 sc qt qh mn qm qd)), (qx, .inl (cI, gcap_ k cx, .inl (upd xs k x1))), (qy, .inl (cI, gcap_ k cx, .inl (upd ys k y1)))] := hD
    refine W.widen (k := 2) (n := (4 * cx)) (by omega) (by omega) ?_
    have hP9 := hP.sub (ws' := [(fa, .inr (3, fg_ kd pn (nI (k + 1)) qx qy qs 0 sc qt qh mn qm qd)), (qx, .inl (cI, gcap_ k cx, .inl (upd xs k x1))), (qy, .inl (cI, gcap_ k cx, .inl (upd ys k y1)))]) [0, 1, 2] rfl
    have hD9 := hD.sub (ws' := [(fa, .inr (3, fg_ kd pn (nI (k + 1)) qx qy qs 0 sc qt qh mn qm qd)), (qx, .inl (cI, gcap_ k cx, .inl (upd xs k x1))), (qy, .inl (cI, gcap_ k cx, .inl (upd ys k y1)))]) [0, 1, 2] (by decide) rfl
    exact W.vret hx hb hr (fun t ht hW => ⟨⟨(upd xs k x1, upd ys k y1), rfl, ⟨fun i hi => ⟨pk_un (by omega), pk_un (by omega)⟩, pk_us, pk_us⟩, qx, qy, by rw [ht]; exact hP9, va_K.moved hW.alike hK, hD9⟩, hS.F ht⟩) hS.2.2 dX3_addPoint_81
  · have q1 : k = cx := (nI_eq (by omega) (by omega)).mp c1
    refine lv_aload_n hx hb dX3_addPoint_12 rfl (lv_at hl 0 rfl) ?_
    refine lv_aload_n hx hb dX3_addPoint_13 rfl (lv_at hl 0 rfl) ?_
    refine va_get (D := g) (ci := 3) (v := .ref qx) (C := RX3) (T := TX3) (N := 13) hx hb hts hiX3 hown hK hP 0 rfl rfl 3 (by decide) (hts (.fieldLink RX3 21 "ShapeRelator$Figure" "xs" "[I") (List.mem_of_getElem? (i := 2) rfl)) (fun _ h9 => h9) rfl dX3_addPoint_14 ?_
    refine lv_iconst (v := 2) hx hb dX3_addPoint_17 (by decide) ?_
    refine lv_aload_n hx hb dX3_addPoint_18 rfl (lv_at hl 0 rfl) ?_
    refine va_get (D := g) (ci := 3) (v := .int (nI k)) (C := RX3) (T := TX3) (N := 13) hx hb hts hiX3 hown hK hP 0 rfl rfl 2 (by decide) (hts (.fieldLink RX3 18 "ShapeRelator$Figure" "pointCount" "I") (List.mem_of_getElem? (i := 1) rfl)) (fun _ h9 => h9) rfl dX3_addPoint_19 ?_
    refine lv_imul hx hb dX3_addPoint_22 ?_
    refine tpi_ (y := (nI (2 * k))) (by rw [← pk_mul]; rfl) ?_
    have hPc := hP.sub (ws' := [(qx, .inl (cI, cx, .inl xs))]) [1] rfl
    have hDc := hD.sub (ws' := [(qx, .inl (cI, cx, .inl xs))]) [1] (by decide) rfl
    have hFc := va_free (wc := [(qx, .inl (cI, cx, .inl xs))]) hD hS hA [1] rfl
    refine va_callr (va_runS (As := [.ref qx, .int (nI (2 * k))]) (rest := [.ref fa]) ⟨hx, hb, hml, hown, hts⟩ (kJ7_copyOf_59c91 l g cI cJ cZ s.heap.size qx cx xs (2 * k) (show cx < 2 * k by omega) (show 2 * k < 1000000 by omega)) (va_cwS 2 hts gX3_addPoint_J7_copyOf_59c91 rfl rfl rfl (by decide +kernel) ⟨Nat.le_of_ble_eq_true rfl, Nat.le_of_ble_eq_true rfl⟩) (ps_ hK hPc hDc) rfl rfl hl.1 rfl (lv_room (Nat.le_of_ble_eq_true rfl)) dX3_addPoint_23 ⟨by show 0 + 1 ≤ 2; omega, by show 0 + (2 * k) ≤ 4 * cx; omega⟩) hS (fun q _ h => hFc q h) hFc (fun u qa t H1 locs ht hvm hw hB hz1 hk1 hS => ?_)
    obtain ⟨hP1, hK1, hD1⟩ := hB
    rw [ht] at hP1
    obtain ⟨hP, hD⟩ := va_join (wr := [(fa, .inr (3, fg_ kd pn (nI k) qx qy qs pr sc qt qh mn qm qd)), (qy, .inl (cI, cx, .inl ys))]) (w1 := [(qx, .inl (cI, cx, .inl xs)), (qa, .inl (cI, (2 * k), .inl (va_cpy xs (fun _ => 0) 0 0 cx)))]) hP hD [1] [0, 2] rfl rfl (by decide) (by decide) hk1 hFc hP1 hD1
    clear hPc hDc hFc hP1 hD1 hK1 hk1 hz1 hvm ht
    generalize H1 = H at hP hS ⊢
    have hP : va_P g vwCl [(fa, .inr (3, fg_ kd pn (nI k) qx qy qs pr sc qt qh mn qm qd)), (qy, .inl (cI, cx, .inl ys)), (qx, .inl (cI, cx, .inl xs)), (qa, .inl (cI, (2 * k), .inl (va_cpy xs (fun _ => 0) 0 0 cx)))] H := hP
    have hD : va_D A [(fa, .inr (3, fg_ kd pn (nI k) qx qy qs pr sc qt qh mn qm qd)), (qy, .inl (cI, cx, .inl ys)), (qx, .inl (cI, cx, .inl xs)), (qa, .inl (cI, (2 * k), .inl (va_cpy xs (fun _ => 0) 0 0 cx)))] := hD
    refine va_put (D := g) (ci := 3) (v := .ref qa) (ty := .array .int) (C := RX3) (T := TX3) (N := 13) hx hb hts hiX3 tyX3 tyX3_ok nmX3 hown hK hP hD hS 0 rfl rfl 3 (by decide) (hts (.fieldLink RX3 21 "ShapeRelator$Figure" "xs" "[I") (List.mem_of_getElem? (i := 2) rfl)) (fun _ h9 => h9) rfl (by decide +kernel) rfl rfl (Nat.le_of_ble_eq_true rfl) dX3_addPoint_26 (fun H locs hP hD hS => ?_)
    have hP : va_P g vwCl [(fa, .inr (3, fg_ kd pn (nI k) qa qy qs pr sc qt qh mn qm qd)), (qy, .inl (cI, cx, .inl ys)), (qx, .inl (cI, cx, .inl xs)), (qa, .inl (cI, (2 * k), .inl (va_cpy xs (fun _ => 0) 0 0 cx)))] H := hP
    have hD : va_D A [(fa, .inr (3, fg_ kd pn (nI k) qa qy qs pr sc qt qh mn qm qd)), (qy, .inl (cI, cx, .inl ys)), (qx, .inl (cI, cx, .inl xs)), (qa, .inl (cI, (2 * k), .inl (va_cpy xs (fun _ => 0) 0 0 cx)))] := hD
    refine lv_aload_n hx hb dX3_addPoint_29 rfl (lv_at hl 0 rfl) ?_
    refine lv_aload_n hx hb dX3_addPoint_30 rfl (lv_at hl 0 rfl) ?_
    refine va_get (D := g) (ci := 3) (v := .ref qy) (C := RX3) (T := TX3) (N := 13) hx hb hts hiX3 hown hK hP 0 rfl rfl 4 (by decide) (hts (.fieldLink RX3 25 "ShapeRelator$Figure" "ys" "[I") (List.mem_of_getElem? (i := 3) rfl)) (fun _ h9 => h9) rfl dX3_addPoint_31 ?_
    refine lv_iconst (v := 2) hx hb dX3_addPoint_34 (by decide) ?_
    refine lv_aload_n hx hb dX3_addPoint_35 rfl (lv_at hl 0 rfl) ?_
    refine va_get (D := g) (ci := 3) (v := .int (nI k)) (C := RX3) (T := TX3) (N := 13) hx hb hts hiX3 hown hK hP 0 rfl rfl 2 (by decide) (hts (.fieldLink RX3 18 "ShapeRelator$Figure" "pointCount" "I") (List.mem_of_getElem? (i := 1) rfl)) (fun _ h9 => h9) rfl dX3_addPoint_36 ?_
    refine lv_imul hx hb dX3_addPoint_39 ?_
    refine tpi_ (y := (nI (2 * k))) (by rw [← pk_mul]; rfl) ?_
    have hPc := hP.sub (ws' := [(qy, .inl (cI, cx, .inl ys))]) [1] rfl
    have hDc := hD.sub (ws' := [(qy, .inl (cI, cx, .inl ys))]) [1] (by decide) rfl
    have hFc := va_free (wc := [(qy, .inl (cI, cx, .inl ys))]) hD hS hA [1] rfl
    refine va_callr (va_runS (As := [.ref qy, .int (nI (2 * k))]) (rest := [.ref fa]) ⟨hx, hb, hml, hown, hts⟩ (kJ7_copyOf_59c91 l g cI cJ cZ H.size qy cx ys (2 * k) (show cx < 2 * k by omega) (show 2 * k < 1000000 by omega)) (va_cwS 2 hts gX3_addPoint_J7_copyOf_59c91 rfl rfl rfl (by decide +kernel) ⟨Nat.le_of_ble_eq_true rfl, Nat.le_of_ble_eq_true rfl⟩) (ps_ hK hPc hDc) rfl rfl hl.1 rfl (lv_room (Nat.le_of_ble_eq_true rfl)) dX3_addPoint_40 ⟨by show 0 + 1 + 1 ≤ 2; omega, by show 0 + (2 * k) + (2 * k) ≤ 4 * cx; omega⟩) hS (fun q _ h => hFc q h) hFc (fun u qb t H1 locs ht hvm hw hB hz1 hk1 hS => ?_)
    obtain ⟨hP1, hK1, hD1⟩ := hB
    rw [ht] at hP1
    obtain ⟨hP, hD⟩ := va_join (wr := [(fa, .inr (3, fg_ kd pn (nI k) qa qy qs pr sc qt qh mn qm qd)), (qx, .inl (cI, cx, .inl xs)), (qa, .inl (cI, (2 * k), .inl (va_cpy xs (fun _ => 0) 0 0 cx)))]) (w1 := [(qy, .inl (cI, cx, .inl ys)), (qb, .inl (cI, (2 * k), .inl (va_cpy ys (fun _ => 0) 0 0 cx)))]) hP hD [1] [0, 2, 3] rfl rfl (by decide) (by decide) hk1 hFc hP1 hD1
    clear hPc hDc hFc hP1 hD1 hK1 hk1 hz1 hvm ht
    generalize H1 = H at hP hS ⊢
    have hP : va_P g vwCl [(fa, .inr (3, fg_ kd pn (nI k) qa qy qs pr sc qt qh mn qm qd)), (qx, .inl (cI, cx, .inl xs)), (qa, .inl (cI, (2 * k), .inl (va_cpy xs (fun _ => 0) 0 0 cx))), (qy, .inl (cI, cx, .inl ys)), (qb, .inl (cI, (2 * k), .inl (va_cpy ys (fun _ => 0) 0 0 cx)))] H := hP
    have hD : va_D A [(fa, .inr (3, fg_ kd pn (nI k) qa qy qs pr sc qt qh mn qm qd)), (qx, .inl (cI, cx, .inl xs)), (qa, .inl (cI, (2 * k), .inl (va_cpy xs (fun _ => 0) 0 0 cx))), (qy, .inl (cI, cx, .inl ys)), (qb, .inl (cI, (2 * k), .inl (va_cpy ys (fun _ => 0) 0 0 cx)))] := hD
    refine va_put (D := g) (ci := 3) (v := .ref qb) (ty := .array .int) (C := RX3) (T := TX3) (N := 13) hx hb hts hiX3 tyX3 tyX3_ok nmX3 hown hK hP hD hS 0 rfl rfl 4 (by decide) (hts (.fieldLink RX3 25 "ShapeRelator$Figure" "ys" "[I") (List.mem_of_getElem? (i := 3) rfl)) (fun _ h9 => h9) rfl (by decide +kernel) rfl rfl (Nat.le_of_ble_eq_true rfl) dX3_addPoint_43 (fun H locs hP hD hS => ?_)
    have hP : va_P g vwCl [(fa, .inr (3, fg_ kd pn (nI k) qa qb qs pr sc qt qh mn qm qd)), (qx, .inl (cI, cx, .inl xs)), (qa, .inl (cI, (2 * k), .inl (va_cpy xs (fun _ => 0) 0 0 cx))), (qy, .inl (cI, cx, .inl ys)), (qb, .inl (cI, (2 * k), .inl (va_cpy ys (fun _ => 0) 0 0 cx)))] H := hP
    have hD : va_D A [(fa, .inr (3, fg_ kd pn (nI k) qa qb qs pr sc qt qh mn qm qd)), (qx, .inl (cI, cx, .inl xs)), (qa, .inl (cI, (2 * k), .inl (va_cpy xs (fun _ => 0) 0 0 cx))), (qy, .inl (cI, cx, .inl ys)), (qb, .inl (cI, (2 * k), .inl (va_cpy ys (fun _ => 0) 0 0 cx)))] := hD
    refine lv_aload_n hx hb dX3_addPoint_46 rfl (lv_at hl 0 rfl) ?_
    refine va_get (D := g) (ci := 3) (v := .ref qa) (C := RX3) (T := TX3) (N := 13) hx hb hts hiX3 hown hK hP 0 rfl rfl 3 (by decide) (hts (.fieldLink RX3 21 "ShapeRelator$Figure" "xs" "[I") (List.mem_of_getElem? (i := 2) rfl)) (fun _ h9 => h9) rfl dX3_addPoint_47 ?_
    refine lv_aload_n hx hb dX3_addPoint_50 rfl (lv_at hl 0 rfl) ?_
    refine va_get (D := g) (ci := 3) (v := .int (nI k)) (C := RX3) (T := TX3) (N := 13) hx hb hts hiX3 hown hK hP 0 rfl rfl 2 (by decide) (hts (.fieldLink RX3 18 "ShapeRelator$Figure" "pointCount" "I") (List.mem_of_getElem? (i := 1) rfl)) (fun _ h9 => h9) rfl dX3_addPoint_51 ?_
    refine lv_iload_n hx hb dX3_addPoint_54 rfl (lv_at hl 1 rfl) ?_
    refine va_iast (D := g) hx hb hK hP hD hS 2 0 rfl rfl (vp_in_nI (show k < 2 * k by omega) (by omega)) dX3_addPoint_55 (fun H locs hP hD hS => ?_)
    rw [nI_clamp (show k < 2 ^ 31 by omega)] at hP hD
    have hP : va_P g vwCl [(fa, .inr (3, fg_ kd pn (nI k) qa qb qs pr sc qt qh mn qm qd)), (qx, .inl (cI, cx, .inl xs)), (qa, .inl (cI, (2 * k), .inl (upd (va_cpy xs (fun _ => 0) 0 0 cx) k x1))), (qy, .inl (cI, cx, .inl ys)), (qb, .inl (cI, (2 * k), .inl (va_cpy ys (fun _ => 0) 0 0 cx)))] H := hP
    have hD : va_D A [(fa, .inr (3, fg_ kd pn (nI k) qa qb qs pr sc qt qh mn qm qd)), (qx, .inl (cI, cx, .inl xs)), (qa, .inl (cI, (2 * k), .inl (upd (va_cpy xs (fun _ => 0) 0 0 cx) k x1))), (qy, .inl (cI, cx, .inl ys)), (qb, .inl (cI, (2 * k), .inl (va_cpy ys (fun _ => 0) 0 0 cx)))] := hD
    refine lv_aload_n hx hb dX3_addPoint_56 rfl (lv_at hl 0 rfl) ?_
    refine va_get (D := g) (ci := 3) (v := .ref qb) (C := RX3) (T := TX3) (N := 13) hx hb hts hiX3 hown hK hP 0 rfl rfl 4 (by decide) (hts (.fieldLink RX3 25 "ShapeRelator$Figure" "ys" "[I") (List.mem_of_getElem? (i := 3) rfl)) (fun _ h9 => h9) rfl dX3_addPoint_57 ?_
    refine lv_aload_n hx hb dX3_addPoint_60 rfl (lv_at hl 0 rfl) ?_
    refine va_get (D := g) (ci := 3) (v := .int (nI k)) (C := RX3) (T := TX3) (N := 13) hx hb hts hiX3 hown hK hP 0 rfl rfl 2 (by decide) (hts (.fieldLink RX3 18 "ShapeRelator$Figure" "pointCount" "I") (List.mem_of_getElem? (i := 1) rfl)) (fun _ h9 => h9) rfl dX3_addPoint_61 ?_
    refine lv_iload_n hx hb dX3_addPoint_64 rfl (lv_at hl 2 rfl) ?_
    refine va_iast (D := g) hx hb hK hP hD hS 4 0 rfl rfl (vp_in_nI (show k < 2 * k by omega) (by omega)) dX3_addPoint_65 (fun H locs hP hD hS => ?_)
    rw [nI_clamp (show k < 2 ^ 31 by omega)] at hP hD
    have hP : va_P g vwCl [(fa, .inr (3, fg_ kd pn (nI k) qa qb qs pr sc qt qh mn qm qd)), (qx, .inl (cI, cx, .inl xs)), (qa, .inl (cI, (2 * k), .inl (upd (va_cpy xs (fun _ => 0) 0 0 cx) k x1))), (qy, .inl (cI, cx, .inl ys)), (qb, .inl (cI, (2 * k), .inl (upd (va_cpy ys (fun _ => 0) 0 0 cx) k y1)))] H := hP
    have hD : va_D A [(fa, .inr (3, fg_ kd pn (nI k) qa qb qs pr sc qt qh mn qm qd)), (qx, .inl (cI, cx, .inl xs)), (qa, .inl (cI, (2 * k), .inl (upd (va_cpy xs (fun _ => 0) 0 0 cx) k x1))), (qy, .inl (cI, cx, .inl ys)), (qb, .inl (cI, (2 * k), .inl (upd (va_cpy ys (fun _ => 0) 0 0 cx) k y1)))] := hD
    refine lv_aload_n hx hb dX3_addPoint_66 rfl (lv_at hl 0 rfl) ?_
    refine lv_dup hx hb dX3_addPoint_67 rfl ?_
    refine va_get (D := g) (ci := 3) (v := .int (nI k)) (C := RX3) (T := TX3) (N := 13) hx hb hts hiX3 hown hK hP 0 rfl rfl 2 (by decide) (hts (.fieldLink RX3 18 "ShapeRelator$Figure" "pointCount" "I") (List.mem_of_getElem? (i := 1) rfl)) (fun _ h9 => h9) rfl dX3_addPoint_68 ?_
    refine lv_iconst (v := 1) hx hb dX3_addPoint_71 (by decide) ?_
    refine lv_iadd hx hb dX3_addPoint_72 ?_
    refine tpi_ (y := (nI (k + 1))) ((nI_1 k).symm) ?_
    refine va_put (D := g) (ci := 3) (v := .int (nI (k + 1))) (ty := .int) (C := RX3) (T := TX3) (N := 13) hx hb hts hiX3 tyX3 tyX3_ok nmX3 hown hK hP hD hS 0 rfl rfl 2 (by decide) (hts (.fieldLink RX3 18 "ShapeRelator$Figure" "pointCount" "I") (List.mem_of_getElem? (i := 1) rfl)) (fun _ h9 => h9) rfl (by decide +kernel) rfl rfl (Nat.le_of_ble_eq_true rfl) dX3_addPoint_73 (fun H locs hP hD hS => ?_)
    have hP : va_P g vwCl [(fa, .inr (3, fg_ kd pn (nI (k + 1)) qa qb qs pr sc qt qh mn qm qd)), (qx, .inl (cI, cx, .inl xs)), (qa, .inl (cI, (2 * k), .inl (upd (va_cpy xs (fun _ => 0) 0 0 cx) k x1))), (qy, .inl (cI, cx, .inl ys)), (qb, .inl (cI, (2 * k), .inl (upd (va_cpy ys (fun _ => 0) 0 0 cx) k y1)))] H := hP
    have hD : va_D A [(fa, .inr (3, fg_ kd pn (nI (k + 1)) qa qb qs pr sc qt qh mn qm qd)), (qx, .inl (cI, cx, .inl xs)), (qa, .inl (cI, (2 * k), .inl (upd (va_cpy xs (fun _ => 0) 0 0 cx) k x1))), (qy, .inl (cI, cx, .inl ys)), (qb, .inl (cI, (2 * k), .inl (upd (va_cpy ys (fun _ => 0) 0 0 cx) k y1)))] := hD
    refine lv_aload_n hx hb dX3_addPoint_76 rfl (lv_at hl 0 rfl) ?_
    refine lv_iconst (v := 0) hx hb dX3_addPoint_77 (by decide) ?_
    refine va_put (D := g) (ci := 3) (v := .int 0) (ty := .boolean) (C := RX3) (T := TX3) (N := 13) hx hb hts hiX3 tyX3 tyX3_ok nmX3 hown hK hP hD hS 0 rfl rfl 6 (by decide) (hts (.fieldLink RX3 31 "ShapeRelator$Figure" "prepared" "Z") (List.mem_of_getElem? (i := 4) rfl)) (fun _ h9 => h9) rfl (by decide +kernel) (by decide +kernel) (by decide +kernel) (Nat.le_of_ble_eq_true rfl) dX3_addPoint_78 (fun H locs hP hD hS => ?_)
    have hP : va_P g vwCl [(fa, .inr (3, fg_ kd pn (nI (k + 1)) qa qb qs 0 sc qt qh mn qm qd)), (qx, .inl (cI, cx, .inl xs)), (qa, .inl (cI, (2 * k), .inl (upd (va_cpy xs (fun _ => 0) 0 0 cx) k x1))), (qy, .inl (cI, cx, .inl ys)), (qb, .inl (cI, (2 * k), .inl (upd (va_cpy ys (fun _ => 0) 0 0 cx) k y1)))] H := hP
    have hD : va_D A [(fa, .inr (3, fg_ kd pn (nI (k + 1)) qa qb qs 0 sc qt qh mn qm qd)), (qx, .inl (cI, cx, .inl xs)), (qa, .inl (cI, (2 * k), .inl (upd (va_cpy xs (fun _ => 0) 0 0 cx) k x1))), (qy, .inl (cI, cx, .inl ys)), (qb, .inl (cI, (2 * k), .inl (upd (va_cpy ys (fun _ => 0) 0 0 cx) k y1)))] := hD
    have en : 2 * k = gcap_ k cx := by unfold gcap_; rw [if_pos q1]
    rw [en] at hP hD
    have hP : va_P g vwCl [(fa, .inr (3, fg_ kd pn (nI (k + 1)) qa qb qs 0 sc qt qh mn qm qd)), (qx, .inl (cI, cx, .inl xs)), (qa, .inl (cI, gcap_ k cx, .inl (upd (va_cpy xs (fun _ => 0) 0 0 cx) k x1))), (qy, .inl (cI, cx, .inl ys)), (qb, .inl (cI, gcap_ k cx, .inl (upd (va_cpy ys (fun _ => 0) 0 0 cx) k y1)))] H := hP
    have hD : va_D A [(fa, .inr (3, fg_ kd pn (nI (k + 1)) qa qb qs 0 sc qt qh mn qm qd)), (qx, .inl (cI, cx, .inl xs)), (qa, .inl (cI, gcap_ k cx, .inl (upd (va_cpy xs (fun _ => 0) 0 0 cx) k x1))), (qy, .inl (cI, cx, .inl ys)), (qb, .inl (cI, gcap_ k cx, .inl (upd (va_cpy ys (fun _ => 0) 0 0 cx) k y1)))] := hD
    refine W.widen (k := 2) (n := (4 * cx)) (by omega) (by omega) ?_
    have hP9 := hP.sub (ws' := [(fa, .inr (3, fg_ kd pn (nI (k + 1)) qa qb qs 0 sc qt qh mn qm qd)), (qa, .inl (cI, gcap_ k cx, .inl (upd (va_cpy xs (fun _ => 0) 0 0 cx) k x1))), (qb, .inl (cI, gcap_ k cx, .inl (upd (va_cpy ys (fun _ => 0) 0 0 cx) k y1)))]) [0, 2, 4] rfl
    have hD9 := hD.sub (ws' := [(fa, .inr (3, fg_ kd pn (nI (k + 1)) qa qb qs 0 sc qt qh mn qm qd)), (qa, .inl (cI, gcap_ k cx, .inl (upd (va_cpy xs (fun _ => 0) 0 0 cx) k x1))), (qb, .inl (cI, gcap_ k cx, .inl (upd (va_cpy ys (fun _ => 0) 0 0 cx) k y1)))]) [0, 2, 4] (by decide) rfl
    exact W.vret hx hb hr (fun t ht hW => ⟨⟨(upd (va_cpy xs (fun _ => 0) 0 0 cx) k x1, upd (va_cpy ys (fun _ => 0) 0 0 cx) k y1), rfl, ⟨fun i hi => ⟨(pk_un (by omega)).trans (cpy_ (by omega)), (pk_un (by omega)).trans (cpy_ (by omega))⟩, pk_us, pk_us⟩, qa, qb, by rw [ht]; exact hP9, va_K.moved hW.alike hK, hD9⟩, hS.F ht⟩) hS.2.2 dX3_addPoint_81

theorem ikX3_makeRoomForPrepared_X3 : ∀ w ∈ wsX30, w ∈ wsX3_makeRoomForPrepared := by decide +kernel
set_option maxHeartbeats 1000000 in
set_option maxRecDepth 100000 in
theorem kX3_makeRoomForPrepared (l : Launch) (g : va_G) (cI cJ cZ : ClassId) (sz : Nat) (fa : Nat) (kd : Int32) (pn : Int32) (pt : Int32) (qx : Nat) (qy : Nat) (qs : Nat) (pr : Int32) (sc : Int32) (qt : Nat) (qh : Nat) (mn : Int32) (qm : Nat) (qd : Nat) (cx : Nat) (xs : Nat → Int32) (ys : Nat → Int32) (ct : Nat) (ta : Nat → Int32) (he : Nat → Int32) (ma : Nat → Int32) (sd : Nat → Int64) (h1 : ct < 100000) (h2 : cx < 100000) : Met l yX3_makeRoomForPrepared wsX3_makeRoomForPrepared ({ frames := 0, cells := 4, slots := 4 * cx, locals := 0 }) (pc_ g cI cJ cZ [.ref fa] [(fa, .inr (3, fg_ kd pn pt qx qy qs pr sc qt qh mn qm qd)), (qx, .inl (cI, cx, .inl xs)), (qy, .inl (cI, cx, .inl ys)), (qt, .inl (cI, ct, .inl ta)), (qh, .inl (cI, ct, .inl he)), (qm, .inl (cI, ct, .inl ma)), (qd, .inl (cJ, ct, .inr (.inl sd)))] sz) (va_Qv (fun (u : (Nat → Int32) × (Nat → Int32) × (Nat → Int32) × (Nat → Int64)) => match u with | (ta2, he2, ma2, sd2) => True) (fun (u : (Nat → Int32) × (Nat → Int32) × (Nat → Int32) × (Nat → Int64)) t => match u with | (ta2, he2, ma2, sd2) => ∃ (qt2 : Nat) (qh2 : Nat) (qm2 : Nat) (qd2 : Nat), wd_ g cI cJ cZ (va_A [(fa, .inr (3, fg_ kd pn pt qx qy qs pr sc qt qh mn qm qd)), (qx, .inl (cI, cx, .inl xs)), (qy, .inl (cI, cx, .inl ys)), (qt, .inl (cI, ct, .inl ta)), (qh, .inl (cI, ct, .inl he)), (qm, .inl (cI, ct, .inl ma)), (qd, .inl (cJ, ct, .inr (.inl sd)))] sz) [(fa, .inr (3, fg_ kd pn pt qx qy qs pr sc qt2 qh2 mn qm2 qd2)), (qx, .inl (cI, cx, .inl xs)), (qy, .inl (cI, cx, .inl ys)), (qt2, .inl (cI, mr_ ct cx, .inl ta2)), (qh2, .inl (cI, mr_ ct cx, .inl he2)), (qm2, .inl (cI, mr_ ct cx, .inl ma2)), (qd2, .inl (cJ, mr_ ct cx, .inr (.inl sd2)))] t) (va_A [(fa, .inr (3, fg_ kd pn pt qx qy qs pr sc qt qh mn qm qd)), (qx, .inl (cI, cx, .inl xs)), (qy, .inl (cI, cx, .inl ys)), (qt, .inl (cI, ct, .inl ta)), (qh, .inl (cI, ct, .inl he)), (qm, .inl (cI, ct, .inl ma)), (qd, .inl (cJ, ct, .inr (.inl sd)))] sz)) (4) (4 * cx) (va_A [(fa, .inr (3, fg_ kd pn pt qx qy qs pr sc qt qh mn qm qd)), (qx, .inl (cI, cx, .inl xs)), (qy, .inl (cI, cx, .inl ys)), (qt, .inl (cI, ct, .inl ta)), (qh, .inl (cI, ct, .inl he)), (qm, .inl (cI, ct, .inl ma)), (qd, .inl (cJ, ct, .inr (.inl sd)))] sz) := by
  refine Met.ofW (cc := cX3_makeRoomForPrepared) (maxL := 1) (ret := none) (by decide) rfl ?_
  intro p e s m args below meth c s₁ B hml hv
  obtain ⟨rfl, hsz, hP, hK, hD0⟩ := hv
  have hx := B.exec
  have hb := B.bytes
  have hr := B.returns
  have hts := atoms_spec (ws := wsX3_makeRoomForPrepared) B.pre
  have hown : s.vm.findClass RX3 = some m.cls := findClass_of_methodNamed B.named
  have hlocks := B.notSynchronized
  subst hsz
  have hD := hD0.self (sz := s.heap.size)
  generalize hAe : va_A [(fa, .inr (3, fg_ kd pn pt qx qy qs pr sc qt qh mn qm qd)), (qx, .inl (cI, cx, .inl xs)), (qy, .inl (cI, cx, .inl ys)), (qt, .inl (cI, ct, .inl ta)), (qh, .inl (cI, ct, .inl he)), (qm, .inl (cI, ct, .inl ma)), (qd, .inl (cJ, ct, .inr (.inl sd)))] s.heap.size = A at hD ⊢
  have hA : ∀ q : Nat, s.heap.size ≤ q → A q := fun q h => by rw [← hAe]; exact Or.inr h
  have hS : va_S A s.heap s.heap [] := va_S.rf
  have hP : va_P g vwCl [(fa, .inr (3, fg_ kd pn pt qx qy qs pr sc qt qh mn qm qd)), (qx, .inl (cI, cx, .inl xs)), (qy, .inl (cI, cx, .inl ys)), (qt, .inl (cI, ct, .inl ta)), (qh, .inl (cI, ct, .inl he)), (qm, .inl (cI, ct, .inl ma)), (qd, .inl (cJ, ct, .inr (.inl sd)))] s.heap := hP
  have hl := lv_entry ([.ref fa]) (n := 1) (Nat.le_of_ble_eq_true rfl)
  rw [lg_entry_eq]
  generalize (lg_sl ([.ref fa]) ++ List.replicate (1 - (lg_sl ([.ref fa])).length) Slot.unset).toArray = ls at hl ⊢
  have hl : lv_has ls 1 [(0, .ref fa)] := hl
  have hH0 : s.heap = s.heap := rfl
  have hiX3 := ikX3_makeRoomForPrepared_X3
  refine lv_aload_n hx hb dX3_makeRoomForPrepared_0 rfl (lv_at hl 0 rfl) ?_
  refine va_get (D := g) (ci := 3) (v := .ref qt) (C := RX3) (T := TX3) (N := 13) hx hb hts hiX3 hown hK hP 0 rfl rfl 8 (by decide) (hts (.fieldLink RX3 38 "ShapeRelator$Figure" "tails" "[I") (List.mem_of_getElem? (i := 1) rfl)) (fun _ h9 => h9) rfl dX3_makeRoomForPrepared_1 ?_
  refine va_alen (D := g) (v := nI ct) hx hb hK hP 3 0 rfl rfl rfl dX3_makeRoomForPrepared_4 ?_
  refine lv_aload_n hx hb dX3_makeRoomForPrepared_5 rfl (lv_at hl 0 rfl) ?_
  refine va_get (D := g) (ci := 3) (v := .ref qx) (C := RX3) (T := TX3) (N := 13) hx hb hts hiX3 hown hK hP 0 rfl rfl 3 (by decide) (hts (.fieldLink RX3 21 "ShapeRelator$Figure" "xs" "[I") (List.mem_of_getElem? (i := 2) rfl)) (fun _ h9 => h9) rfl dX3_makeRoomForPrepared_6 ?_
  refine va_alen (D := g) (v := nI cx) hx hb hK hP 1 0 rfl rfl rfl dX3_makeRoomForPrepared_9 ?_
  refine lv_icmp_ge (tgt := 57) hx hb dX3_makeRoomForPrepared_10 (by decide) (fun c1 => ?_) (fun c1 => ?_)
  · have en : ct = mr_ ct cx := by unfold mr_; rw [if_neg (by have := i_ge c1 (by omega) (by omega); omega)]
    rw [en] at hP hD
    have hP : va_P g vwCl [(fa, .inr (3, fg_ kd pn pt qx qy qs pr sc qt qh mn qm qd)), (qx, .inl (cI, cx, .inl xs)), (qy, .inl (cI, cx, .inl ys)), (qt, .inl (cI, mr_ ct cx, .inl ta)), (qh, .inl (cI, mr_ ct cx, .inl he)), (qm, .inl (cI, mr_ ct cx, .inl ma)), (qd, .inl (cJ, mr_ ct cx, .inr (.inl sd)))] s.heap := hP
    have hD : va_D A [(fa, .inr (3, fg_ kd pn pt qx qy qs pr sc qt qh mn qm qd)), (qx, .inl (cI, cx, .inl xs)), (qy, .inl (cI, cx, .inl ys)), (qt, .inl (cI, mr_ ct cx, .inl ta)), (qh, .inl (cI, mr_ ct cx, .inl he)), (qm, .inl (cI, mr_ ct cx, .inl ma)), (qd, .inl (cJ, mr_ ct cx, .inr (.inl sd)))] := hD
    refine W.widen (k := 4) (n := (4 * cx)) (by omega) (by omega) ?_
    have hP9 := hP.sub (ws' := [(fa, .inr (3, fg_ kd pn pt qx qy qs pr sc qt qh mn qm qd)), (qx, .inl (cI, cx, .inl xs)), (qy, .inl (cI, cx, .inl ys)), (qt, .inl (cI, mr_ ct cx, .inl ta)), (qh, .inl (cI, mr_ ct cx, .inl he)), (qm, .inl (cI, mr_ ct cx, .inl ma)), (qd, .inl (cJ, mr_ ct cx, .inr (.inl sd)))]) [0, 1, 2, 3, 4, 5, 6] rfl
    have hD9 := hD.sub (ws' := [(fa, .inr (3, fg_ kd pn pt qx qy qs pr sc qt qh mn qm qd)), (qx, .inl (cI, cx, .inl xs)), (qy, .inl (cI, cx, .inl ys)), (qt, .inl (cI, mr_ ct cx, .inl ta)), (qh, .inl (cI, mr_ ct cx, .inl he)), (qm, .inl (cI, mr_ ct cx, .inl ma)), (qd, .inl (cJ, mr_ ct cx, .inr (.inl sd)))]) [0, 1, 2, 3, 4, 5, 6] (by decide) rfl
    exact W.vret hx hb hr (fun t ht hW => ⟨⟨(ta, he, ma, sd), rfl, trivial, qt, qh, qm, qd, by rw [ht]; exact hP9, va_K.moved hW.alike hK, hD9⟩, hS.F ht⟩) hS.2.2 dX3_makeRoomForPrepared_57
  · have q1 : ct < cx := i_nge c1 (by omega) (by omega)
    refine lv_aload_n hx hb dX3_makeRoomForPrepared_13 rfl (lv_at hl 0 rfl) ?_
    refine lv_aload_n hx hb dX3_makeRoomForPrepared_14 rfl (lv_at hl 0 rfl) ?_
    refine va_get (D := g) (ci := 3) (v := .ref qx) (C := RX3) (T := TX3) (N := 13) hx hb hts hiX3 hown hK hP 0 rfl rfl 3 (by decide) (hts (.fieldLink RX3 21 "ShapeRelator$Figure" "xs" "[I") (List.mem_of_getElem? (i := 2) rfl)) (fun _ h9 => h9) rfl dX3_makeRoomForPrepared_15 ?_
    refine va_alen (D := g) (v := nI cx) hx hb hK hP 1 0 rfl rfl rfl dX3_makeRoomForPrepared_18 ?_
    refine nwa_ (D := g) (atype := .int) (N' := cx) (a0 := (cx, .inl (fun _ => 0))) hx hb (hts (.arrayClass .int) (List.mem_of_getElem? (i := 3) rfl)) rfl hK 0 rfl (fun _ h => h) hP hD hS hA (fun _ => rfl) (nI_pos (by omega)) (nI_clamp (by omega)) (by show cx * 4 ≤ 536870912; omega) (by show 0 + 1 ≤ 4; omega) (by show 0 + cx ≤ 4 * cx; omega) dX3_makeRoomForPrepared_19 (fun q_1 H hP hD hS => ?_)
    have hP : va_P g vwCl [(fa, .inr (3, fg_ kd pn pt qx qy qs pr sc qt qh mn qm qd)), (qx, .inl (cI, cx, .inl xs)), (qy, .inl (cI, cx, .inl ys)), (qt, .inl (cI, ct, .inl ta)), (qh, .inl (cI, ct, .inl he)), (qm, .inl (cI, ct, .inl ma)), (qd, .inl (cJ, ct, .inr (.inl sd))), (q_1, .inl (cI, cx, .inl (fun _ => 0)))] H := hP
    have hD : va_D A [(fa, .inr (3, fg_ kd pn pt qx qy qs pr sc qt qh mn qm qd)), (qx, .inl (cI, cx, .inl xs)), (qy, .inl (cI, cx, .inl ys)), (qt, .inl (cI, ct, .inl ta)), (qh, .inl (cI, ct, .inl he)), (qm, .inl (cI, ct, .inl ma)), (qd, .inl (cJ, ct, .inr (.inl sd))), (q_1, .inl (cI, cx, .inl (fun _ => 0)))] := hD
    refine va_put (D := g) (ci := 3) (v := .ref q_1) (ty := .array .int) (C := RX3) (T := TX3) (N := 13) hx hb hts hiX3 tyX3 tyX3_ok nmX3 hown hK hP hD hS 0 rfl rfl 8 (by decide) (hts (.fieldLink RX3 38 "ShapeRelator$Figure" "tails" "[I") (List.mem_of_getElem? (i := 1) rfl)) (fun _ h9 => h9) rfl (by decide +kernel) rfl rfl (Nat.le_of_ble_eq_true rfl) dX3_makeRoomForPrepared_21 (fun H locs hP hD hS => ?_)
    have hP : va_P g vwCl [(fa, .inr (3, fg_ kd pn pt qx qy qs pr sc q_1 qh mn qm qd)), (qx, .inl (cI, cx, .inl xs)), (qy, .inl (cI, cx, .inl ys)), (qt, .inl (cI, ct, .inl ta)), (qh, .inl (cI, ct, .inl he)), (qm, .inl (cI, ct, .inl ma)), (qd, .inl (cJ, ct, .inr (.inl sd))), (q_1, .inl (cI, cx, .inl (fun _ => 0)))] H := hP
    have hD : va_D A [(fa, .inr (3, fg_ kd pn pt qx qy qs pr sc q_1 qh mn qm qd)), (qx, .inl (cI, cx, .inl xs)), (qy, .inl (cI, cx, .inl ys)), (qt, .inl (cI, ct, .inl ta)), (qh, .inl (cI, ct, .inl he)), (qm, .inl (cI, ct, .inl ma)), (qd, .inl (cJ, ct, .inr (.inl sd))), (q_1, .inl (cI, cx, .inl (fun _ => 0)))] := hD
    refine lv_aload_n hx hb dX3_makeRoomForPrepared_24 rfl (lv_at hl 0 rfl) ?_
    refine lv_aload_n hx hb dX3_makeRoomForPrepared_25 rfl (lv_at hl 0 rfl) ?_
    refine va_get (D := g) (ci := 3) (v := .ref qx) (C := RX3) (T := TX3) (N := 13) hx hb hts hiX3 hown hK hP 0 rfl rfl 3 (by decide) (hts (.fieldLink RX3 21 "ShapeRelator$Figure" "xs" "[I") (List.mem_of_getElem? (i := 2) rfl)) (fun _ h9 => h9) rfl dX3_makeRoomForPrepared_26 ?_
    refine va_alen (D := g) (v := nI cx) hx hb hK hP 1 0 rfl rfl rfl dX3_makeRoomForPrepared_29 ?_
    refine nwa_ (D := g) (atype := .int) (N' := cx) (a0 := (cx, .inl (fun _ => 0))) hx hb (hts (.arrayClass .int) (List.mem_of_getElem? (i := 3) rfl)) rfl hK 0 rfl (fun _ h => h) hP hD hS hA (fun _ => rfl) (nI_pos (by omega)) (nI_clamp (by omega)) (by show cx * 4 ≤ 536870912; omega) (by show 0 + 1 + 1 ≤ 4; omega) (by show 0 + cx + cx ≤ 4 * cx; omega) dX3_makeRoomForPrepared_30 (fun q_2 H hP hD hS => ?_)
    have hP : va_P g vwCl [(fa, .inr (3, fg_ kd pn pt qx qy qs pr sc q_1 qh mn qm qd)), (qx, .inl (cI, cx, .inl xs)), (qy, .inl (cI, cx, .inl ys)), (qt, .inl (cI, ct, .inl ta)), (qh, .inl (cI, ct, .inl he)), (qm, .inl (cI, ct, .inl ma)), (qd, .inl (cJ, ct, .inr (.inl sd))), (q_1, .inl (cI, cx, .inl (fun _ => 0))), (q_2, .inl (cI, cx, .inl (fun _ => 0)))] H := hP
    have hD : va_D A [(fa, .inr (3, fg_ kd pn pt qx qy qs pr sc q_1 qh mn qm qd)), (qx, .inl (cI, cx, .inl xs)), (qy, .inl (cI, cx, .inl ys)), (qt, .inl (cI, ct, .inl ta)), (qh, .inl (cI, ct, .inl he)), (qm, .inl (cI, ct, .inl ma)), (qd, .inl (cJ, ct, .inr (.inl sd))), (q_1, .inl (cI, cx, .inl (fun _ => 0))), (q_2, .inl (cI, cx, .inl (fun _ => 0)))] := hD
    refine va_put (D := g) (ci := 3) (v := .ref q_2) (ty := .array .int) (C := RX3) (T := TX3) (N := 13) hx hb hts hiX3 tyX3 tyX3_ok nmX3 hown hK hP hD hS 0 rfl rfl 9 (by decide) (hts (.fieldLink RX3 41 "ShapeRelator$Figure" "heads" "[I") (List.mem_of_getElem? (i := 4) rfl)) (fun _ h9 => h9) rfl (by decide +kernel) rfl rfl (Nat.le_of_ble_eq_true rfl) dX3_makeRoomForPrepared_32 (fun H locs hP hD hS => ?_)
    have hP : va_P g vwCl [(fa, .inr (3, fg_ kd pn pt qx qy qs pr sc q_1 q_2 mn qm qd)), (qx, .inl (cI, cx, .inl xs)), (qy, .inl (cI, cx, .inl ys)), (qt, .inl (cI, ct, .inl ta)), (qh, .inl (cI, ct, .inl he)), (qm, .inl (cI, ct, .inl ma)), (qd, .inl (cJ, ct, .inr (.inl sd))), (q_1, .inl (cI, cx, .inl (fun _ => 0))), (q_2, .inl (cI, cx, .inl (fun _ => 0)))] H := hP
    have hD : va_D A [(fa, .inr (3, fg_ kd pn pt qx qy qs pr sc q_1 q_2 mn qm qd)), (qx, .inl (cI, cx, .inl xs)), (qy, .inl (cI, cx, .inl ys)), (qt, .inl (cI, ct, .inl ta)), (qh, .inl (cI, ct, .inl he)), (qm, .inl (cI, ct, .inl ma)), (qd, .inl (cJ, ct, .inr (.inl sd))), (q_1, .inl (cI, cx, .inl (fun _ => 0))), (q_2, .inl (cI, cx, .inl (fun _ => 0)))] := hD
    refine lv_aload_n hx hb dX3_makeRoomForPrepared_35 rfl (lv_at hl 0 rfl) ?_
    refine lv_aload_n hx hb dX3_makeRoomForPrepared_36 rfl (lv_at hl 0 rfl) ?_
    refine va_get (D := g) (ci := 3) (v := .ref qx) (C := RX3) (T := TX3) (N := 13) hx hb hts hiX3 hown hK hP 0 rfl rfl 3 (by decide) (hts (.fieldLink RX3 21 "ShapeRelator$Figure" "xs" "[I") (List.mem_of_getElem? (i := 2) rfl)) (fun _ h9 => h9) rfl dX3_makeRoomForPrepared_37 ?_
    refine va_alen (D := g) (v := nI cx) hx hb hK hP 1 0 rfl rfl rfl dX3_makeRoomForPrepared_40 ?_
    refine nwa_ (D := g) (atype := .int) (N' := cx) (a0 := (cx, .inl (fun _ => 0))) hx hb (hts (.arrayClass .int) (List.mem_of_getElem? (i := 3) rfl)) rfl hK 0 rfl (fun _ h => h) hP hD hS hA (fun _ => rfl) (nI_pos (by omega)) (nI_clamp (by omega)) (by show cx * 4 ≤ 536870912; omega) (by show 0 + 1 + 1 + 1 ≤ 4; omega) (by show 0 + cx + cx + cx ≤ 4 * cx; omega) dX3_makeRoomForPrepared_41 (fun q_3 H hP hD hS => ?_)
    have hP : va_P g vwCl [(fa, .inr (3, fg_ kd pn pt qx qy qs pr sc q_1 q_2 mn qm qd)), (qx, .inl (cI, cx, .inl xs)), (qy, .inl (cI, cx, .inl ys)), (qt, .inl (cI, ct, .inl ta)), (qh, .inl (cI, ct, .inl he)), (qm, .inl (cI, ct, .inl ma)), (qd, .inl (cJ, ct, .inr (.inl sd))), (q_1, .inl (cI, cx, .inl (fun _ => 0))), (q_2, .inl (cI, cx, .inl (fun _ => 0))), (q_3, .inl (cI, cx, .inl (fun _ => 0)))] H := hP
    have hD : va_D A [(fa, .inr (3, fg_ kd pn pt qx qy qs pr sc q_1 q_2 mn qm qd)), (qx, .inl (cI, cx, .inl xs)), (qy, .inl (cI, cx, .inl ys)), (qt, .inl (cI, ct, .inl ta)), (qh, .inl (cI, ct, .inl he)), (qm, .inl (cI, ct, .inl ma)), (qd, .inl (cJ, ct, .inr (.inl sd))), (q_1, .inl (cI, cx, .inl (fun _ => 0))), (q_2, .inl (cI, cx, .inl (fun _ => 0))), (q_3, .inl (cI, cx, .inl (fun _ => 0)))] := hD
    refine va_put (D := g) (ci := 3) (v := .ref q_3) (ty := .array .int) (C := RX3) (T := TX3) (N := 13) hx hb hts hiX3 tyX3 tyX3_ok nmX3 hown hK hP hD hS 0 rfl rfl 11 (by decide) (hts (.fieldLink RX3 47 "ShapeRelator$Figure" "marks" "[I") (List.mem_of_getElem? (i := 5) rfl)) (fun _ h9 => h9) rfl (by decide +kernel) rfl rfl (Nat.le_of_ble_eq_true rfl) dX3_makeRoomForPrepared_43 (fun H locs hP hD hS => ?_)
    have hP : va_P g vwCl [(fa, .inr (3, fg_ kd pn pt qx qy qs pr sc q_1 q_2 mn q_3 qd)), (qx, .inl (cI, cx, .inl xs)), (qy, .inl (cI, cx, .inl ys)), (qt, .inl (cI, ct, .inl ta)), (qh, .inl (cI, ct, .inl he)), (qm, .inl (cI, ct, .inl ma)), (qd, .inl (cJ, ct, .inr (.inl sd))), (q_1, .inl (cI, cx, .inl (fun _ => 0))), (q_2, .inl (cI, cx, .inl (fun _ => 0))), (q_3, .inl (cI, cx, .inl (fun _ => 0)))] H := hP
    have hD : va_D A [(fa, .inr (3, fg_ kd pn pt qx qy qs pr sc q_1 q_2 mn q_3 qd)), (qx, .inl (cI, cx, .inl xs)), (qy, .inl (cI, cx, .inl ys)), (qt, .inl (cI, ct, .inl ta)), (qh, .inl (cI, ct, .inl he)), (qm, .inl (cI, ct, .inl ma)), (qd, .inl (cJ, ct, .inr (.inl sd))), (q_1, .inl (cI, cx, .inl (fun _ => 0))), (q_2, .inl (cI, cx, .inl (fun _ => 0))), (q_3, .inl (cI, cx, .inl (fun _ => 0)))] := hD
    refine lv_aload_n hx hb dX3_makeRoomForPrepared_46 rfl (lv_at hl 0 rfl) ?_
    refine lv_aload_n hx hb dX3_makeRoomForPrepared_47 rfl (lv_at hl 0 rfl) ?_
    refine va_get (D := g) (ci := 3) (v := .ref qx) (C := RX3) (T := TX3) (N := 13) hx hb hts hiX3 hown hK hP 0 rfl rfl 3 (by decide) (hts (.fieldLink RX3 21 "ShapeRelator$Figure" "xs" "[I") (List.mem_of_getElem? (i := 2) rfl)) (fun _ h9 => h9) rfl dX3_makeRoomForPrepared_48 ?_
    refine va_alen (D := g) (v := nI cx) hx hb hK hP 1 0 rfl rfl rfl dX3_makeRoomForPrepared_51 ?_
    refine nwa_ (D := g) (atype := .long) (N' := cx) (a0 := (cx, .inr (.inl (fun _ => 0)))) hx hb (hts (.arrayClass .long) (List.mem_of_getElem? (i := 6) rfl)) rfl hK 1 rfl (fun _ h => h) hP hD hS hA (fun _ => rfl) (nI_pos (by omega)) (nI_clamp (by omega)) (by show cx * 8 ≤ 536870912; omega) (by show 0 + 1 + 1 + 1 + 1 ≤ 4; omega) (by show 0 + cx + cx + cx + cx ≤ 4 * cx; omega) dX3_makeRoomForPrepared_52 (fun q_4 H hP hD hS => ?_)
    have hP : va_P g vwCl [(fa, .inr (3, fg_ kd pn pt qx qy qs pr sc q_1 q_2 mn q_3 qd)), (qx, .inl (cI, cx, .inl xs)), (qy, .inl (cI, cx, .inl ys)), (qt, .inl (cI, ct, .inl ta)), (qh, .inl (cI, ct, .inl he)), (qm, .inl (cI, ct, .inl ma)), (qd, .inl (cJ, ct, .inr (.inl sd))), (q_1, .inl (cI, cx, .inl (fun _ => 0))), (q_2, .inl (cI, cx, .inl (fun _ => 0))), (q_3, .inl (cI, cx, .inl (fun _ => 0))), (q_4, .inl (cJ, cx, .inr (.inl (fun _ => 0))))] H := hP
    have hD : va_D A [(fa, .inr (3, fg_ kd pn pt qx qy qs pr sc q_1 q_2 mn q_3 qd)), (qx, .inl (cI, cx, .inl xs)), (qy, .inl (cI, cx, .inl ys)), (qt, .inl (cI, ct, .inl ta)), (qh, .inl (cI, ct, .inl he)), (qm, .inl (cI, ct, .inl ma)), (qd, .inl (cJ, ct, .inr (.inl sd))), (q_1, .inl (cI, cx, .inl (fun _ => 0))), (q_2, .inl (cI, cx, .inl (fun _ => 0))), (q_3, .inl (cI, cx, .inl (fun _ => 0))), (q_4, .inl (cJ, cx, .inr (.inl (fun _ => 0))))] := hD
    refine va_put (D := g) (ci := 3) (v := .ref q_4) (ty := .array .long) (C := RX3) (T := TX3) (N := 13) hx hb hts hiX3 tyX3 tyX3_ok nmX3 hown hK hP hD hS 0 rfl rfl 12 (by decide) (hts (.fieldLink RX3 50 "ShapeRelator$Figure" "sides" "[J") (List.mem_of_getElem? (i := 7) rfl)) (fun _ h9 => h9) rfl (by decide +kernel) rfl rfl (Nat.le_of_ble_eq_true rfl) dX3_makeRoomForPrepared_54 (fun H locs hP hD hS => ?_)
    have hP : va_P g vwCl [(fa, .inr (3, fg_ kd pn pt qx qy qs pr sc q_1 q_2 mn q_3 q_4)), (qx, .inl (cI, cx, .inl xs)), (qy, .inl (cI, cx, .inl ys)), (qt, .inl (cI, ct, .inl ta)), (qh, .inl (cI, ct, .inl he)), (qm, .inl (cI, ct, .inl ma)), (qd, .inl (cJ, ct, .inr (.inl sd))), (q_1, .inl (cI, cx, .inl (fun _ => 0))), (q_2, .inl (cI, cx, .inl (fun _ => 0))), (q_3, .inl (cI, cx, .inl (fun _ => 0))), (q_4, .inl (cJ, cx, .inr (.inl (fun _ => 0))))] H := hP
    have hD : va_D A [(fa, .inr (3, fg_ kd pn pt qx qy qs pr sc q_1 q_2 mn q_3 q_4)), (qx, .inl (cI, cx, .inl xs)), (qy, .inl (cI, cx, .inl ys)), (qt, .inl (cI, ct, .inl ta)), (qh, .inl (cI, ct, .inl he)), (qm, .inl (cI, ct, .inl ma)), (qd, .inl (cJ, ct, .inr (.inl sd))), (q_1, .inl (cI, cx, .inl (fun _ => 0))), (q_2, .inl (cI, cx, .inl (fun _ => 0))), (q_3, .inl (cI, cx, .inl (fun _ => 0))), (q_4, .inl (cJ, cx, .inr (.inl (fun _ => 0))))] := hD
    have en : cx = mr_ ct cx := by unfold mr_; rw [if_pos q1]
    have hP : va_P g vwCl [(fa, .inr (3, fg_ kd pn pt qx qy qs pr sc q_1 q_2 mn q_3 q_4)), (qx, .inl (cI, cx, .inl xs)), (qy, .inl (cI, cx, .inl ys)), (qt, .inl (cI, ct, .inl ta)), (qh, .inl (cI, ct, .inl he)), (qm, .inl (cI, ct, .inl ma)), (qd, .inl (cJ, ct, .inr (.inl sd))), (q_1, .inl (cI, mr_ ct cx, .inl (fun _ => 0))), (q_2, .inl (cI, mr_ ct cx, .inl (fun _ => 0))), (q_3, .inl (cI, mr_ ct cx, .inl (fun _ => 0))), (q_4, .inl (cJ, mr_ ct cx, .inr (.inl (fun _ => 0))))] H := by rw [← en]; exact hP
    have hD : va_D A [(fa, .inr (3, fg_ kd pn pt qx qy qs pr sc q_1 q_2 mn q_3 q_4)), (qx, .inl (cI, cx, .inl xs)), (qy, .inl (cI, cx, .inl ys)), (qt, .inl (cI, ct, .inl ta)), (qh, .inl (cI, ct, .inl he)), (qm, .inl (cI, ct, .inl ma)), (qd, .inl (cJ, ct, .inr (.inl sd))), (q_1, .inl (cI, mr_ ct cx, .inl (fun _ => 0))), (q_2, .inl (cI, mr_ ct cx, .inl (fun _ => 0))), (q_3, .inl (cI, mr_ ct cx, .inl (fun _ => 0))), (q_4, .inl (cJ, mr_ ct cx, .inr (.inl (fun _ => 0))))] := by rw [← en]; exact hD
    refine W.widen (k := 4) (n := (4 * cx)) (by omega) (by omega) ?_
    have hP9 := hP.sub (ws' := [(fa, .inr (3, fg_ kd pn pt qx qy qs pr sc q_1 q_2 mn q_3 q_4)), (qx, .inl (cI, cx, .inl xs)), (qy, .inl (cI, cx, .inl ys)), (q_1, .inl (cI, mr_ ct cx, .inl (fun _ => 0))), (q_2, .inl (cI, mr_ ct cx, .inl (fun _ => 0))), (q_3, .inl (cI, mr_ ct cx, .inl (fun _ => 0))), (q_4, .inl (cJ, mr_ ct cx, .inr (.inl (fun _ => 0))))]) [0, 1, 2, 7, 8, 9, 10] rfl
    have hD9 := hD.sub (ws' := [(fa, .inr (3, fg_ kd pn pt qx qy qs pr sc q_1 q_2 mn q_3 q_4)), (qx, .inl (cI, cx, .inl xs)), (qy, .inl (cI, cx, .inl ys)), (q_1, .inl (cI, mr_ ct cx, .inl (fun _ => 0))), (q_2, .inl (cI, mr_ ct cx, .inl (fun _ => 0))), (q_3, .inl (cI, mr_ ct cx, .inl (fun _ => 0))), (q_4, .inl (cJ, mr_ ct cx, .inr (.inl (fun _ => 0))))]) [0, 1, 2, 7, 8, 9, 10] (by decide) rfl
    exact W.vret hx hb hr (fun t ht hW => ⟨⟨(fun _ => 0, fun _ => 0, fun _ => 0, fun _ => 0), rfl, trivial, q_1, q_2, q_3, q_4, by rw [ht]; exact hP9, va_K.moved hW.alike hK, hD9⟩, hS.F ht⟩) hS.2.2 dX3_makeRoomForPrepared_57

theorem ikX3_preparePart_X3 : ∀ w ∈ wsX30, w ∈ wsX3_preparePart := by decide +kernel
set_option maxHeartbeats 1000000 in
set_option maxRecDepth 100000 in
theorem kX3_preparePart (l : Launch) (g : va_G) (cI cJ cZ : ClassId) (sz : Nat) (fa : Nat) (kd : Int32) (pn : Int32) (pt : Int32) (qx : Nat) (qy : Nat) (qs : Nat) (pr : Int32) (qt : Nat) (qh : Nat) (qm : Nat) (qd : Nat) (cx : Nat) (xs : Nat → Int32) (ys : Nat → Int32) (ct : Nat) (ta : Nat → Int32) (he : Nat → Int32) (ma : Nat → Int32) (sl : List (Nat × Nat)) (ml : List Nat) (a : Nat) (z : Nat) (h1 : ct < 100000) (h2 : cx < 100000) (h3 : z < cx) (h3b : z < ct) (h4 : sl_ ta he sl) (h6 : al_ ma ml) (h8 : ∀ q ∈ ml, q < cx) (h9 : a ≤ z) (h10 : sl.length ≤ a) (h11 : ml.length ≤ a) : Met l yX3_preparePart wsX3_preparePart ({ frames := 2, cells := 0, slots := 0, locals := 46 }) (pc_ g cI cJ cZ [.ref fa, .int (nI a), .int (nI z)] [(fa, .inr (3, fg_ kd pn pt qx qy qs pr (nI sl.length) qt qh (nI ml.length) qm qd)), (qx, .inl (cI, cx, .inl xs)), (qy, .inl (cI, cx, .inl ys)), (qt, .inl (cI, ct, .inl ta)), (qh, .inl (cI, ct, .inl he)), (qm, .inl (cI, ct, .inl ma))] sz) (va_Qv (fun (u : (Nat → Int32) × (Nat → Int32) × (Nat → Int32)) => match u with | (ta2, he2, ma2) => sl_ ta2 he2 (ppS_ kd xs ys sl a z) ∧ al_ ma2 (ppM_ kd xs ys ml a z)) (fun (u : (Nat → Int32) × (Nat → Int32) × (Nat → Int32)) t => match u with | (ta2, he2, ma2) => wd_ g cI cJ cZ (va_A [(fa, .inr (3, fg_ kd pn pt qx qy qs pr (nI sl.length) qt qh (nI ml.length) qm qd)), (qx, .inl (cI, cx, .inl xs)), (qy, .inl (cI, cx, .inl ys)), (qt, .inl (cI, ct, .inl ta)), (qh, .inl (cI, ct, .inl he)), (qm, .inl (cI, ct, .inl ma))] sz) [(fa, .inr (3, fg_ kd pn pt qx qy qs pr (nI (ppS_ kd xs ys sl a z).length) qt qh (nI (ppM_ kd xs ys ml a z).length) qm qd)), (qx, .inl (cI, cx, .inl xs)), (qy, .inl (cI, cx, .inl ys)), (qt, .inl (cI, ct, .inl ta2)), (qh, .inl (cI, ct, .inl he2)), (qm, .inl (cI, ct, .inl ma2))] t) (va_A [(fa, .inr (3, fg_ kd pn pt qx qy qs pr (nI sl.length) qt qh (nI ml.length) qm qd)), (qx, .inl (cI, cx, .inl xs)), (qy, .inl (cI, cx, .inl ys)), (qt, .inl (cI, ct, .inl ta)), (qh, .inl (cI, ct, .inl he)), (qm, .inl (cI, ct, .inl ma))] sz)) (0) (0) (va_A [(fa, .inr (3, fg_ kd pn pt qx qy qs pr (nI sl.length) qt qh (nI ml.length) qm qd)), (qx, .inl (cI, cx, .inl xs)), (qy, .inl (cI, cx, .inl ys)), (qt, .inl (cI, ct, .inl ta)), (qh, .inl (cI, ct, .inl he)), (qm, .inl (cI, ct, .inl ma))] sz) := by
  refine Met.ofW (cc := cX3_preparePart) (maxL := 4) (ret := none) (by decide) rfl ?_
  intro p e s m args below meth c s₁ B hml hv
  obtain ⟨rfl, hsz, hP, hK, hD0⟩ := hv
  have hx := B.exec
  have hb := B.bytes
  have hr := B.returns
  have hts := atoms_spec (ws := wsX3_preparePart) B.pre
  have hown : s.vm.findClass RX3 = some m.cls := findClass_of_methodNamed B.named
  have hlocks := B.notSynchronized
  subst hsz
  have hD := hD0.self (sz := s.heap.size)
  generalize hAe : va_A [(fa, .inr (3, fg_ kd pn pt qx qy qs pr (nI sl.length) qt qh (nI ml.length) qm qd)), (qx, .inl (cI, cx, .inl xs)), (qy, .inl (cI, cx, .inl ys)), (qt, .inl (cI, ct, .inl ta)), (qh, .inl (cI, ct, .inl he)), (qm, .inl (cI, ct, .inl ma))] s.heap.size = A at hD ⊢
  have hA : ∀ q : Nat, s.heap.size ≤ q → A q := fun q h => by rw [← hAe]; exact Or.inr h
  have hS : va_S A s.heap s.heap [] := va_S.rf
  have hP : va_P g vwCl [(fa, .inr (3, fg_ kd pn pt qx qy qs pr (nI sl.length) qt qh (nI ml.length) qm qd)), (qx, .inl (cI, cx, .inl xs)), (qy, .inl (cI, cx, .inl ys)), (qt, .inl (cI, ct, .inl ta)), (qh, .inl (cI, ct, .inl he)), (qm, .inl (cI, ct, .inl ma))] s.heap := hP
  have hl := lv_entry ([.ref fa, .int (nI a), .int (nI z)]) (n := 4) (Nat.le_of_ble_eq_true rfl)
  rw [lg_entry_eq]
  generalize (lg_sl ([.ref fa, .int (nI a), .int (nI z)]) ++ List.replicate (4 - (lg_sl ([.ref fa, .int (nI a), .int (nI z)])).length) Slot.unset).toArray = ls at hl ⊢
  have hl : lv_has ls 4 [(0, .ref fa), (1, .int (nI a)), (2, .int (nI z))] := hl
  have hH0 : s.heap = s.heap := rfl
  have hiX3 := ikX3_preparePart_X3
  refine lv_aload_n hx hb dX3_preparePart_0 rfl (lv_at hl 0 rfl) ?_
  refine va_get (D := g) (ci := 3) (v := .int kd) (C := RX3) (T := TX3) (N := 13) hx hb hts hiX3 hown hK hP 0 rfl rfl 0 (by decide) (hts (.fieldLink RX3 9 "ShapeRelator$Figure" "kind" "I") (List.mem_of_getElem? (i := 1) rfl)) (fun _ h9 => h9) rfl dX3_preparePart_1 ?_
  refine lv_iconst (v := 1) hx hb dX3_preparePart_4 (by decide) ?_
  refine lv_icmp_ne (tgt := 27) hx hb dX3_preparePart_5 (by decide) (fun k1 => ?_) (fun k1 => ?_)
  · refine lv_iload_n hx hb dX3_preparePart_27 rfl (lv_at hl 1 rfl) ?_
    refine lv_istore_n (lv' := [(3, .int (nI a)), (0, .ref fa), (1, .int (nI a)), (2, .int (nI z))]) hx hb dX3_preparePart_28 rfl hl (by decide) rfl (fun ls hl => ?_)
    have h4 : sl_ ta he (psg_ xs ys sl a (a - a)) := by rw [Nat.sub_self]; exact h4
    have en : sl.length = (psg_ xs ys sl a (a - a)).length := by rw [Nat.sub_self]; rfl
    have h10 : (psg_ xs ys sl a (a - a)).length ≤ a := by rw [← en]; exact h10
    rw [en] at hP hD
    have hP : va_P g vwCl [(fa, .inr (3, fg_ kd pn pt qx qy qs pr (nI (psg_ xs ys sl a (a - a)).length) qt qh (nI ml.length) qm qd)), (qx, .inl (cI, cx, .inl xs)), (qy, .inl (cI, cx, .inl ys)), (qt, .inl (cI, ct, .inl ta)), (qh, .inl (cI, ct, .inl he)), (qm, .inl (cI, ct, .inl ma))] s.heap := hP
    have hD : va_D A [(fa, .inr (3, fg_ kd pn pt qx qy qs pr (nI (psg_ xs ys sl a (a - a)).length) qt qh (nI ml.length) qm qd)), (qx, .inl (cI, cx, .inl xs)), (qy, .inl (cI, cx, .inl ys)), (qt, .inl (cI, ct, .inl ta)), (qh, .inl (cI, ct, .inl he)), (qm, .inl (cI, ct, .inl ma))] := hD
    refine lpW (σ := Nat × (Nat → Int32) × (Nat → Int32)) (fun (i, t1, u1) => z + 1 - i) (fun (i, t1, u1) => 0) (fun (i, t1, u1) => 0) (fun (i, t1, u1) H locs ls => (a ≤ i ∧ i ≤ z ∧ sl_ t1 u1 (psg_ xs ys sl a (i - a)) ∧ (psg_ xs ys sl a (i - a)).length ≤ i) ∧ va_P g vwCl [(fa, .inr (3, fg_ kd pn pt qx qy qs pr (nI (psg_ xs ys sl a (i - a)).length) qt qh (nI ml.length) qm qd)), (qx, .inl (cI, cx, .inl xs)), (qy, .inl (cI, cx, .inl ys)), (qt, .inl (cI, ct, .inl t1)), (qh, .inl (cI, ct, .inl u1)), (qm, .inl (cI, ct, .inl ma))] H ∧ va_D A [(fa, .inr (3, fg_ kd pn pt qx qy qs pr (nI (psg_ xs ys sl a (i - a)).length) qt qh (nI ml.length) qm qd)), (qx, .inl (cI, cx, .inl xs)), (qy, .inl (cI, cx, .inl ys)), (qt, .inl (cI, ct, .inl t1)), (qh, .inl (cI, ct, .inl u1)), (qm, .inl (cI, ct, .inl ma))] ∧ va_S A s.heap H locs ∧ lv_has ls 4 [(3, .int (nI i)), (0, .ref fa), (1, .int (nI a)), (2, .int (nI z))]) (fun x ih H locs ls hI => ?_) (a, ta, he) rfl rfl ⟨⟨Nat.le_refl _, h9, h4, h10⟩, hP, hD, hS, (lv_sub hl [0, 1, 2, 3] rfl)⟩
    obtain ⟨i, t1, u1⟩ := x
    obtain ⟨hi, hP, hD, hS, hl⟩ := hI
    have hP : va_P g vwCl [(fa, .inr (3, fg_ kd pn pt qx qy qs pr (nI (psg_ xs ys sl a (i - a)).length) qt qh (nI ml.length) qm qd)), (qx, .inl (cI, cx, .inl xs)), (qy, .inl (cI, cx, .inl ys)), (qt, .inl (cI, ct, .inl t1)), (qh, .inl (cI, ct, .inl u1)), (qm, .inl (cI, ct, .inl ma))] H := hP
    have hD : va_D A [(fa, .inr (3, fg_ kd pn pt qx qy qs pr (nI (psg_ xs ys sl a (i - a)).length) qt qh (nI ml.length) qm qd)), (qx, .inl (cI, cx, .inl xs)), (qy, .inl (cI, cx, .inl ys)), (qt, .inl (cI, ct, .inl t1)), (qh, .inl (cI, ct, .inl u1)), (qm, .inl (cI, ct, .inl ma))] := hD
    have hl : lv_has ls 4 [(3, .int (nI i)), (0, .ref fa), (1, .int (nI a)), (2, .int (nI z))] := hl
    show W p l e _ s m _ below meth c H locs (0) (0) _ (F0 m 29 ls [])
    obtain ⟨hi1, hi2, hi3, hi4⟩ := hi
    refine lv_iload_n hx hb dX3_preparePart_29 rfl (lv_at hl 0 rfl) ?_
    refine lv_iload_n hx hb dX3_preparePart_30 rfl (lv_at hl 3 rfl) ?_
    refine lv_icmp_ge (tgt := 48) hx hb dX3_preparePart_31 (by decide) (fun c1 => ?_) (fun c1 => ?_)
    · have e1 : z = i := by have := i_ge c1 (by omega) (by omega); omega
      subst e1
      refine lv_aload_n hx hb dX3_preparePart_48 rfl (lv_at hl 1 rfl) ?_
      refine va_get (D := g) (ci := 3) (v := .int kd) (C := RX3) (T := TX3) (N := 13) hx hb hts hiX3 hown hK hP 0 rfl rfl 0 (by decide) (hts (.fieldLink RX3 9 "ShapeRelator$Figure" "kind" "I") (List.mem_of_getElem? (i := 1) rfl)) (fun _ h9 => h9) rfl dX3_preparePart_49 ?_
      refine lv_iconst (v := 3) hx hb dX3_preparePart_52 (by decide) ?_
      refine lv_icmp_ne (tgt := 65) hx hb dX3_preparePart_53 (by decide) (fun k3 => ?_) (fun k3 => ?_)
      · have es : ppS_ kd xs ys sl a z = psg_ xs ys sl a (z - a) := by unfold ppS_; rw [if_neg k1, if_neg k3]
        have em : ppM_ kd xs ys ml a z = trn_ xs ys (trn_ xs ys ml a) z := by unfold ppM_; rw [if_neg k1, if_neg k3]
        refine lv_aload_n hx hb dX3_preparePart_65 rfl (lv_at hl 1 rfl) ?_
        refine lv_iload_n hx hb dX3_preparePart_66 rfl (lv_at hl 2 rfl) ?_
        have hPc := hP.sub (ws' := [(fa, .inr (3, fg_ kd pn pt qx qy qs pr (nI (psg_ xs ys sl a (z - a)).length) qt qh (nI ml.length) qm qd)), (qx, .inl (cI, cx, .inl xs)), (qy, .inl (cI, cx, .inl ys)), (qm, .inl (cI, ct, .inl ma))]) [0, 1, 2, 5] rfl
        have hDc := hD.sub (ws' := [(fa, .inr (3, fg_ kd pn pt qx qy qs pr (nI (psg_ xs ys sl a (z - a)).length) qt qh (nI ml.length) qm qd)), (qx, .inl (cI, cx, .inl xs)), (qy, .inl (cI, cx, .inl ys)), (qm, .inl (cI, ct, .inl ma))]) [0, 1, 2, 5] (by decide) rfl
        have hFc := va_free (wc := [(fa, .inr (3, fg_ kd pn pt qx qy qs pr (nI (psg_ xs ys sl a (z - a)).length) qt qh (nI ml.length) qm qd)), (qx, .inl (cI, cx, .inl xs)), (qy, .inl (cI, cx, .inl ys)), (qm, .inl (cI, ct, .inl ma))]) hD hS hA [0, 1, 2, 5] rfl
        refine va_callv (va_runV (As := [.int (nI a)]) (rest := []) ⟨hx, hb, hml, hown, hts⟩ (kX3_turnMark l g cI cJ cZ H.size fa kd pn pt qx qy qs pr (nI (psg_ xs ys sl a (z - a)).length) qt qh qm qd cx xs ys ct ma ml a (show ct < 1000000 by omega) (show cx < 1000000 by omega) (show _ ≤ ct by omega) h6 h8 (show a < cx by omega) (fun _ => by omega)) (cwV 1 hts gX3_preparePart_X3_turnMark rfl rfl rfl (by decide +kernel) ⟨Nat.le_of_ble_eq_true rfl, Nat.le_of_ble_eq_true rfl⟩) (pv_ hK hPc hDc (va_recv hK hPc (ci := 3) (q0 := 0) rfl rfl)) rfl rfl hl.1 rfl (lv_room (Nat.le_of_ble_eq_true rfl)) dX3_preparePart_67 ⟨Nat.zero_le _, Nat.zero_le _⟩) hS (fun q _ h => hFc q h) hFc (fun u t H1 locs ht hvm hw1 hB hz1 hk1 hS => ?_)
        obtain ⟨m2, rfl⟩ : ∃ z, z = u := ⟨_, rfl⟩
        obtain ⟨hP1, hK1, hD1⟩ := hB
        rw [ht] at hP1
        obtain ⟨hP, hD⟩ := va_join (wr := [(qt, .inl (cI, ct, .inl t1)), (qh, .inl (cI, ct, .inl u1))]) (w1 := [(fa, .inr (3, fg_ kd pn pt qx qy qs pr (nI (psg_ xs ys sl a (z - a)).length) qt qh (nI (trn_ xs ys ml a).length) qm qd)), (qx, .inl (cI, cx, .inl xs)), (qy, .inl (cI, cx, .inl ys)), (qm, .inl (cI, ct, .inl m2))]) hP hD [0, 1, 2, 5] [3, 4] rfl rfl (by decide) (by decide) hk1 hFc hP1 hD1
        clear hPc hDc hFc hP1 hD1 hK1 hk1 hz1 hvm ht
        generalize H1 = H at hP hS ⊢
        have hP : va_P g vwCl [(qt, .inl (cI, ct, .inl t1)), (qh, .inl (cI, ct, .inl u1)), (fa, .inr (3, fg_ kd pn pt qx qy qs pr (nI (psg_ xs ys sl a (z - a)).length) qt qh (nI (trn_ xs ys ml a).length) qm qd)), (qx, .inl (cI, cx, .inl xs)), (qy, .inl (cI, cx, .inl ys)), (qm, .inl (cI, ct, .inl m2))] H := hP
        have hD : va_D A [(qt, .inl (cI, ct, .inl t1)), (qh, .inl (cI, ct, .inl u1)), (fa, .inr (3, fg_ kd pn pt qx qy qs pr (nI (psg_ xs ys sl a (z - a)).length) qt qh (nI (trn_ xs ys ml a).length) qm qd)), (qx, .inl (cI, cx, .inl xs)), (qy, .inl (cI, cx, .inl ys)), (qm, .inl (cI, ct, .inl m2))] := hD
        have hl1 : (trn_ xs ys ml a).length ≤ ml.length + 1 := trn_l
        have hq1 : ∀ q ∈ trn_ xs ys ml a, q < cx := trn_q h8 (by omega)
        refine lv_aload_n hx hb dX3_preparePart_70 rfl (lv_at hl 1 rfl) ?_
        refine lv_iload_n hx hb dX3_preparePart_71 rfl (lv_at hl 3 rfl) ?_
        have hPc := hP.sub (ws' := [(fa, .inr (3, fg_ kd pn pt qx qy qs pr (nI (psg_ xs ys sl a (z - a)).length) qt qh (nI (trn_ xs ys ml a).length) qm qd)), (qx, .inl (cI, cx, .inl xs)), (qy, .inl (cI, cx, .inl ys)), (qm, .inl (cI, ct, .inl m2))]) [2, 3, 4, 5] rfl
        have hDc := hD.sub (ws' := [(fa, .inr (3, fg_ kd pn pt qx qy qs pr (nI (psg_ xs ys sl a (z - a)).length) qt qh (nI (trn_ xs ys ml a).length) qm qd)), (qx, .inl (cI, cx, .inl xs)), (qy, .inl (cI, cx, .inl ys)), (qm, .inl (cI, ct, .inl m2))]) [2, 3, 4, 5] (by decide) rfl
        have hFc := va_free (wc := [(fa, .inr (3, fg_ kd pn pt qx qy qs pr (nI (psg_ xs ys sl a (z - a)).length) qt qh (nI (trn_ xs ys ml a).length) qm qd)), (qx, .inl (cI, cx, .inl xs)), (qy, .inl (cI, cx, .inl ys)), (qm, .inl (cI, ct, .inl m2))]) hD hS hA [2, 3, 4, 5] rfl
        refine va_callv (va_runV (As := [.int (nI z)]) (rest := []) ⟨hx, hb, hml, hown, hts⟩ (kX3_turnMark l g cI cJ cZ H.size fa kd pn pt qx qy qs pr (nI (psg_ xs ys sl a (z - a)).length) qt qh qm qd cx xs ys ct m2 (trn_ xs ys ml a) z (show ct < 1000000 by omega) (show cx < 1000000 by omega) (show _ ≤ ct by omega) hw1 hq1 (show z < cx by omega) (fun hq => trn_r hq (by omega) (by omega) (by omega))) (cwV 1 hts gX3_preparePart_X3_turnMark rfl rfl rfl (by decide +kernel) ⟨Nat.le_of_ble_eq_true rfl, Nat.le_of_ble_eq_true rfl⟩) (pv_ hK hPc hDc (va_recv hK hPc (ci := 3) (q0 := 0) rfl rfl)) rfl rfl hl.1 rfl (lv_room (Nat.le_of_ble_eq_true rfl)) dX3_preparePart_72 ⟨Nat.zero_le _, Nat.zero_le _⟩) hS (fun q _ h => hFc q h) hFc (fun u t H1 locs ht hvm hw2 hB hz1 hk1 hS => ?_)
        obtain ⟨m3, rfl⟩ : ∃ z, z = u := ⟨_, rfl⟩
        obtain ⟨hP1, hK1, hD1⟩ := hB
        rw [ht] at hP1
        obtain ⟨hP, hD⟩ := va_join (wr := [(qt, .inl (cI, ct, .inl t1)), (qh, .inl (cI, ct, .inl u1))]) (w1 := [(fa, .inr (3, fg_ kd pn pt qx qy qs pr (nI (psg_ xs ys sl a (z - a)).length) qt qh (nI (trn_ xs ys (trn_ xs ys ml a) z).length) qm qd)), (qx, .inl (cI, cx, .inl xs)), (qy, .inl (cI, cx, .inl ys)), (qm, .inl (cI, ct, .inl m3))]) hP hD [2, 3, 4, 5] [0, 1] rfl rfl (by decide) (by decide) hk1 hFc hP1 hD1
        clear hPc hDc hFc hP1 hD1 hK1 hk1 hz1 hvm ht
        generalize H1 = H at hP hS ⊢
        have hP : va_P g vwCl [(qt, .inl (cI, ct, .inl t1)), (qh, .inl (cI, ct, .inl u1)), (fa, .inr (3, fg_ kd pn pt qx qy qs pr (nI (psg_ xs ys sl a (z - a)).length) qt qh (nI (trn_ xs ys (trn_ xs ys ml a) z).length) qm qd)), (qx, .inl (cI, cx, .inl xs)), (qy, .inl (cI, cx, .inl ys)), (qm, .inl (cI, ct, .inl m3))] H := hP
        have hD : va_D A [(qt, .inl (cI, ct, .inl t1)), (qh, .inl (cI, ct, .inl u1)), (fa, .inr (3, fg_ kd pn pt qx qy qs pr (nI (psg_ xs ys sl a (z - a)).length) qt qh (nI (trn_ xs ys (trn_ xs ys ml a) z).length) qm qd)), (qx, .inl (cI, cx, .inl xs)), (qy, .inl (cI, cx, .inl ys)), (qm, .inl (cI, ct, .inl m3))] := hD
        rw [← em] at hP hD hw2
        rw [← es] at hP hD hi3
        have hP : va_P g vwCl [(qt, .inl (cI, ct, .inl t1)), (qh, .inl (cI, ct, .inl u1)), (fa, .inr (3, fg_ kd pn pt qx qy qs pr (nI (ppS_ kd xs ys sl a z).length) qt qh (nI (ppM_ kd xs ys ml a z).length) qm qd)), (qx, .inl (cI, cx, .inl xs)), (qy, .inl (cI, cx, .inl ys)), (qm, .inl (cI, ct, .inl m3))] H := hP
        have hD : va_D A [(qt, .inl (cI, ct, .inl t1)), (qh, .inl (cI, ct, .inl u1)), (fa, .inr (3, fg_ kd pn pt qx qy qs pr (nI (ppS_ kd xs ys sl a z).length) qt qh (nI (ppM_ kd xs ys ml a z).length) qm qd)), (qx, .inl (cI, cx, .inl xs)), (qy, .inl (cI, cx, .inl ys)), (qm, .inl (cI, ct, .inl m3))] := hD
        have hP9 := hP.sub (ws' := [(fa, .inr (3, fg_ kd pn pt qx qy qs pr (nI (ppS_ kd xs ys sl a z).length) qt qh (nI (ppM_ kd xs ys ml a z).length) qm qd)), (qx, .inl (cI, cx, .inl xs)), (qy, .inl (cI, cx, .inl ys)), (qt, .inl (cI, ct, .inl t1)), (qh, .inl (cI, ct, .inl u1)), (qm, .inl (cI, ct, .inl m3))]) [2, 3, 4, 0, 1, 5] rfl
        have hD9 := hD.sub (ws' := [(fa, .inr (3, fg_ kd pn pt qx qy qs pr (nI (ppS_ kd xs ys sl a z).length) qt qh (nI (ppM_ kd xs ys ml a z).length) qm qd)), (qx, .inl (cI, cx, .inl xs)), (qy, .inl (cI, cx, .inl ys)), (qt, .inl (cI, ct, .inl t1)), (qh, .inl (cI, ct, .inl u1)), (qm, .inl (cI, ct, .inl m3))]) [2, 3, 4, 0, 1, 5] (by decide) rfl
        exact W.vret hx hb hr (fun t ht hW => ⟨⟨(t1, u1, m3), rfl, ⟨hi3, hw2⟩, by rw [ht]; exact hP9, va_K.moved hW.alike hK, hD9⟩, hS.F ht⟩) hS.2.2 dX3_preparePart_75
      · have es : ppS_ kd xs ys sl a z = sgs_ xs ys (psg_ xs ys sl a (z - a)) z a := by unfold ppS_; rw [if_neg k1, if_pos k3]
        have em : ppM_ kd xs ys ml a z = ml := by unfold ppM_; rw [if_neg k1, if_pos k3]
        refine lv_aload_n hx hb dX3_preparePart_56 rfl (lv_at hl 1 rfl) ?_
        refine lv_iload_n hx hb dX3_preparePart_57 rfl (lv_at hl 3 rfl) ?_
        refine lv_iload_n hx hb dX3_preparePart_58 rfl (lv_at hl 2 rfl) ?_
        have hPc := hP.sub (ws' := [(fa, .inr (3, fg_ kd pn pt qx qy qs pr (nI (psg_ xs ys sl a (z - a)).length) qt qh (nI ml.length) qm qd)), (qx, .inl (cI, cx, .inl xs)), (qy, .inl (cI, cx, .inl ys)), (qt, .inl (cI, ct, .inl t1)), (qh, .inl (cI, ct, .inl u1))]) [0, 1, 2, 3, 4] rfl
        have hDc := hD.sub (ws' := [(fa, .inr (3, fg_ kd pn pt qx qy qs pr (nI (psg_ xs ys sl a (z - a)).length) qt qh (nI ml.length) qm qd)), (qx, .inl (cI, cx, .inl xs)), (qy, .inl (cI, cx, .inl ys)), (qt, .inl (cI, ct, .inl t1)), (qh, .inl (cI, ct, .inl u1))]) [0, 1, 2, 3, 4] (by decide) rfl
        have hFc := va_free (wc := [(fa, .inr (3, fg_ kd pn pt qx qy qs pr (nI (psg_ xs ys sl a (z - a)).length) qt qh (nI ml.length) qm qd)), (qx, .inl (cI, cx, .inl xs)), (qy, .inl (cI, cx, .inl ys)), (qt, .inl (cI, ct, .inl t1)), (qh, .inl (cI, ct, .inl u1))]) hD hS hA [0, 1, 2, 3, 4] rfl
        refine va_callv (va_runV (As := [.int (nI z), .int (nI a)]) (rest := []) ⟨hx, hb, hml, hown, hts⟩ (kX3_addSegment l g cI cJ cZ H.size fa kd pn pt qx qy qs pr qt qh (nI ml.length) qm qd cx xs ys ct t1 u1 (psg_ xs ys sl a (z - a)) z a (show ct < 1000000 by omega) (show cx < 1000000 by omega) (show _ < ct by omega) hi3 (show z < cx by omega) (show a < cx by omega)) (cwV 2 hts gX3_preparePart_X3_addSegment rfl rfl rfl (by decide +kernel) ⟨Nat.le_of_ble_eq_true rfl, Nat.le_of_ble_eq_true rfl⟩) (pv_ hK hPc hDc (va_recv hK hPc (ci := 3) (q0 := 0) rfl rfl)) rfl rfl hl.1 rfl (lv_room (Nat.le_of_ble_eq_true rfl)) dX3_preparePart_59 ⟨Nat.zero_le _, Nat.zero_le _⟩) hS (fun q _ h => hFc q h) hFc (fun u t H1 locs ht hvm hw1 hB hz1 hk1 hS => ?_)
        obtain ⟨t2, u2⟩ := u
        obtain ⟨hP1, hK1, hD1⟩ := hB
        rw [ht] at hP1
        dsimp only at hw1
        obtain ⟨hP, hD⟩ := va_join (wr := [(qm, .inl (cI, ct, .inl ma))]) (w1 := [(fa, .inr (3, fg_ kd pn pt qx qy qs pr (nI (sgs_ xs ys (psg_ xs ys sl a (z - a)) z a).length) qt qh (nI ml.length) qm qd)), (qx, .inl (cI, cx, .inl xs)), (qy, .inl (cI, cx, .inl ys)), (qt, .inl (cI, ct, .inl t2)), (qh, .inl (cI, ct, .inl u2))]) hP hD [0, 1, 2, 3, 4] [5] rfl rfl (by decide) (by decide) hk1 hFc hP1 hD1
        clear hPc hDc hFc hP1 hD1 hK1 hk1 hz1 hvm ht
        generalize H1 = H at hP hS ⊢
        have hP : va_P g vwCl [(qm, .inl (cI, ct, .inl ma)), (fa, .inr (3, fg_ kd pn pt qx qy qs pr (nI (sgs_ xs ys (psg_ xs ys sl a (z - a)) z a).length) qt qh (nI ml.length) qm qd)), (qx, .inl (cI, cx, .inl xs)), (qy, .inl (cI, cx, .inl ys)), (qt, .inl (cI, ct, .inl t2)), (qh, .inl (cI, ct, .inl u2))] H := hP
        have hD : va_D A [(qm, .inl (cI, ct, .inl ma)), (fa, .inr (3, fg_ kd pn pt qx qy qs pr (nI (sgs_ xs ys (psg_ xs ys sl a (z - a)) z a).length) qt qh (nI ml.length) qm qd)), (qx, .inl (cI, cx, .inl xs)), (qy, .inl (cI, cx, .inl ys)), (qt, .inl (cI, ct, .inl t2)), (qh, .inl (cI, ct, .inl u2))] := hD
        rw [← es] at hP hD hw1
        rw [← em] at hP hD h6
        have hP : va_P g vwCl [(qm, .inl (cI, ct, .inl ma)), (fa, .inr (3, fg_ kd pn pt qx qy qs pr (nI (ppS_ kd xs ys sl a z).length) qt qh (nI (ppM_ kd xs ys ml a z).length) qm qd)), (qx, .inl (cI, cx, .inl xs)), (qy, .inl (cI, cx, .inl ys)), (qt, .inl (cI, ct, .inl t2)), (qh, .inl (cI, ct, .inl u2))] H := hP
        have hD : va_D A [(qm, .inl (cI, ct, .inl ma)), (fa, .inr (3, fg_ kd pn pt qx qy qs pr (nI (ppS_ kd xs ys sl a z).length) qt qh (nI (ppM_ kd xs ys ml a z).length) qm qd)), (qx, .inl (cI, cx, .inl xs)), (qy, .inl (cI, cx, .inl ys)), (qt, .inl (cI, ct, .inl t2)), (qh, .inl (cI, ct, .inl u2))] := hD
        refine lv_goto (tgt := 75) hx hb dX3_preparePart_62 (by decide) ?_
        have hP9 := hP.sub (ws' := [(fa, .inr (3, fg_ kd pn pt qx qy qs pr (nI (ppS_ kd xs ys sl a z).length) qt qh (nI (ppM_ kd xs ys ml a z).length) qm qd)), (qx, .inl (cI, cx, .inl xs)), (qy, .inl (cI, cx, .inl ys)), (qt, .inl (cI, ct, .inl t2)), (qh, .inl (cI, ct, .inl u2)), (qm, .inl (cI, ct, .inl ma))]) [1, 2, 3, 4, 5, 0] rfl
        have hD9 := hD.sub (ws' := [(fa, .inr (3, fg_ kd pn pt qx qy qs pr (nI (ppS_ kd xs ys sl a z).length) qt qh (nI (ppM_ kd xs ys ml a z).length) qm qd)), (qx, .inl (cI, cx, .inl xs)), (qy, .inl (cI, cx, .inl ys)), (qt, .inl (cI, ct, .inl t2)), (qh, .inl (cI, ct, .inl u2)), (qm, .inl (cI, ct, .inl ma))]) [1, 2, 3, 4, 5, 0] (by decide) rfl
        exact W.vret hx hb hr (fun t ht hW => ⟨⟨(t2, u2, ma), rfl, ⟨hw1, h6⟩, by rw [ht]; exact hP9, va_K.moved hW.alike hK, hD9⟩, hS.F ht⟩) hS.2.2 dX3_preparePart_75
    · have e1 : i < z := i_nge c1 (by omega) (by omega)
      refine lv_aload_n hx hb dX3_preparePart_34 rfl (lv_at hl 1 rfl) ?_
      refine lv_iload_n hx hb dX3_preparePart_35 rfl (lv_at hl 0 rfl) ?_
      refine lv_iload_n hx hb dX3_preparePart_36 rfl (lv_at hl 0 rfl) ?_
      refine lv_iconst (v := 1) hx hb dX3_preparePart_37 (by decide) ?_
      refine lv_iadd hx hb dX3_preparePart_38 ?_
      refine tpi_ (y := (nI (i + 1))) ((nI_1 i).symm) ?_
      have hPc := hP.sub (ws' := [(fa, .inr (3, fg_ kd pn pt qx qy qs pr (nI (psg_ xs ys sl a (i - a)).length) qt qh (nI ml.length) qm qd)), (qx, .inl (cI, cx, .inl xs)), (qy, .inl (cI, cx, .inl ys)), (qt, .inl (cI, ct, .inl t1)), (qh, .inl (cI, ct, .inl u1))]) [0, 1, 2, 3, 4] rfl
      have hDc := hD.sub (ws' := [(fa, .inr (3, fg_ kd pn pt qx qy qs pr (nI (psg_ xs ys sl a (i - a)).length) qt qh (nI ml.length) qm qd)), (qx, .inl (cI, cx, .inl xs)), (qy, .inl (cI, cx, .inl ys)), (qt, .inl (cI, ct, .inl t1)), (qh, .inl (cI, ct, .inl u1))]) [0, 1, 2, 3, 4] (by decide) rfl
      have hFc := va_free (wc := [(fa, .inr (3, fg_ kd pn pt qx qy qs pr (nI (psg_ xs ys sl a (i - a)).length) qt qh (nI ml.length) qm qd)), (qx, .inl (cI, cx, .inl xs)), (qy, .inl (cI, cx, .inl ys)), (qt, .inl (cI, ct, .inl t1)), (qh, .inl (cI, ct, .inl u1))]) hD hS hA [0, 1, 2, 3, 4] rfl
      refine va_callv (va_runV (As := [.int (nI i), .int (nI (i + 1))]) (rest := []) ⟨hx, hb, hml, hown, hts⟩ (kX3_addSegment l g cI cJ cZ H.size fa kd pn pt qx qy qs pr qt qh (nI ml.length) qm qd cx xs ys ct t1 u1 (psg_ xs ys sl a (i - a)) i (i + 1) (show ct < 1000000 by omega) (show cx < 1000000 by omega) (show _ < ct by omega) hi3 (show i < cx by omega) (show i + 1 < cx by omega)) (cwV 2 hts gX3_preparePart_X3_addSegment rfl rfl rfl (by decide +kernel) ⟨Nat.le_of_ble_eq_true rfl, Nat.le_of_ble_eq_true rfl⟩) (pv_ hK hPc hDc (va_recv hK hPc (ci := 3) (q0 := 0) rfl rfl)) rfl rfl hl.1 rfl (lv_room (Nat.le_of_ble_eq_true rfl)) dX3_preparePart_39 ⟨Nat.zero_le _, Nat.zero_le _⟩) hS (fun q _ h => hFc q h) hFc (fun u t H1 locs ht hvm hw1 hB hz1 hk1 hS => ?_)
      obtain ⟨t2, u2⟩ := u
      obtain ⟨hP1, hK1, hD1⟩ := hB
      rw [ht] at hP1
      dsimp only at hw1
      obtain ⟨hP, hD⟩ := va_join (wr := [(qm, .inl (cI, ct, .inl ma))]) (w1 := [(fa, .inr (3, fg_ kd pn pt qx qy qs pr (nI (sgs_ xs ys (psg_ xs ys sl a (i - a)) i (i + 1)).length) qt qh (nI ml.length) qm qd)), (qx, .inl (cI, cx, .inl xs)), (qy, .inl (cI, cx, .inl ys)), (qt, .inl (cI, ct, .inl t2)), (qh, .inl (cI, ct, .inl u2))]) hP hD [0, 1, 2, 3, 4] [5] rfl rfl (by decide) (by decide) hk1 hFc hP1 hD1
      clear hPc hDc hFc hP1 hD1 hK1 hk1 hz1 hvm ht
      generalize H1 = H at hP hS ⊢
      have hP : va_P g vwCl [(qm, .inl (cI, ct, .inl ma)), (fa, .inr (3, fg_ kd pn pt qx qy qs pr (nI (sgs_ xs ys (psg_ xs ys sl a (i - a)) i (i + 1)).length) qt qh (nI ml.length) qm qd)), (qx, .inl (cI, cx, .inl xs)), (qy, .inl (cI, cx, .inl ys)), (qt, .inl (cI, ct, .inl t2)), (qh, .inl (cI, ct, .inl u2))] H := hP
      have hD : va_D A [(qm, .inl (cI, ct, .inl ma)), (fa, .inr (3, fg_ kd pn pt qx qy qs pr (nI (sgs_ xs ys (psg_ xs ys sl a (i - a)) i (i + 1)).length) qt qh (nI ml.length) qm qd)), (qx, .inl (cI, cx, .inl xs)), (qy, .inl (cI, cx, .inl ys)), (qt, .inl (cI, ct, .inl t2)), (qh, .inl (cI, ct, .inl u2))] := hD
      have en : sgs_ xs ys (psg_ xs ys sl a (i - a)) i (i + 1) = psg_ xs ys sl a (i + 1 - a) := psg_s hi1
      rw [en] at hP hD hw1
      have hP : va_P g vwCl [(qm, .inl (cI, ct, .inl ma)), (fa, .inr (3, fg_ kd pn pt qx qy qs pr (nI (psg_ xs ys sl a (i + 1 - a)).length) qt qh (nI ml.length) qm qd)), (qx, .inl (cI, cx, .inl xs)), (qy, .inl (cI, cx, .inl ys)), (qt, .inl (cI, ct, .inl t2)), (qh, .inl (cI, ct, .inl u2))] H := hP
      have hD : va_D A [(qm, .inl (cI, ct, .inl ma)), (fa, .inr (3, fg_ kd pn pt qx qy qs pr (nI (psg_ xs ys sl a (i + 1 - a)).length) qt qh (nI ml.length) qm qd)), (qx, .inl (cI, cx, .inl xs)), (qy, .inl (cI, cx, .inl ys)), (qt, .inl (cI, ct, .inl t2)), (qh, .inl (cI, ct, .inl u2))] := hD
      refine lv_iinc (v := (nI (i + 1))) (lv' := [(3, .int (nI (i + 1))), (0, .ref fa), (1, .int (nI a)), (2, .int (nI z))]) hx hb dX3_preparePart_42 hl (k := 0) rfl (nI_1 i) (by decide) rfl (fun ls hl => ?_)
      refine lv_goto (tgt := 29) hx hb dX3_preparePart_45 (by decide) ?_
      exact ih (i + 1, t2, u2) (by show z + 1 - (i + 1) < z + 1 - i; omega) H locs ls ⟨⟨by omega, by omega, hw1, by rw [← en]; exact sgs_l (by omega)⟩, (hP.sub [1, 2, 3, 4, 5, 0] rfl), (hD.sub [1, 2, 3, 4, 5, 0] (by decide) rfl), hS, (lv_sub hl [0, 1, 2, 3] rfl)⟩
  · refine lv_iload_n hx hb dX3_preparePart_8 rfl (lv_at hl 1 rfl) ?_
    refine lv_istore_n (lv' := [(3, .int (nI a)), (0, .ref fa), (1, .int (nI a)), (2, .int (nI z))]) hx hb dX3_preparePart_9 rfl hl (by decide) rfl (fun ls hl => ?_)
    have h6 : al_ ma (ml ++ List.range' a (a - a)) := by rw [Nat.sub_self]; simpa using h6
    have en : ml.length = (ml ++ List.range' a (a - a)).length := by rw [Nat.sub_self]; simp
    rw [en] at hP hD
    have hP : va_P g vwCl [(fa, .inr (3, fg_ kd pn pt qx qy qs pr (nI sl.length) qt qh (nI (ml ++ List.range' a (a - a)).length) qm qd)), (qx, .inl (cI, cx, .inl xs)), (qy, .inl (cI, cx, .inl ys)), (qt, .inl (cI, ct, .inl ta)), (qh, .inl (cI, ct, .inl he)), (qm, .inl (cI, ct, .inl ma))] s.heap := hP
    have hD : va_D A [(fa, .inr (3, fg_ kd pn pt qx qy qs pr (nI sl.length) qt qh (nI (ml ++ List.range' a (a - a)).length) qm qd)), (qx, .inl (cI, cx, .inl xs)), (qy, .inl (cI, cx, .inl ys)), (qt, .inl (cI, ct, .inl ta)), (qh, .inl (cI, ct, .inl he)), (qm, .inl (cI, ct, .inl ma))] := hD
    refine lpW (σ := Nat × (Nat → Int32)) (fun (i, m1) => z + 1 - i) (fun (i, m1) => 0) (fun (i, m1) => 0) (fun (i, m1) H locs ls => (a ≤ i ∧ i ≤ z + 1 ∧ al_ m1 (ml ++ List.range' a (i - a))) ∧ va_P g vwCl [(fa, .inr (3, fg_ kd pn pt qx qy qs pr (nI sl.length) qt qh (nI (ml ++ List.range' a (i - a)).length) qm qd)), (qx, .inl (cI, cx, .inl xs)), (qy, .inl (cI, cx, .inl ys)), (qt, .inl (cI, ct, .inl ta)), (qh, .inl (cI, ct, .inl he)), (qm, .inl (cI, ct, .inl m1))] H ∧ va_D A [(fa, .inr (3, fg_ kd pn pt qx qy qs pr (nI sl.length) qt qh (nI (ml ++ List.range' a (i - a)).length) qm qd)), (qx, .inl (cI, cx, .inl xs)), (qy, .inl (cI, cx, .inl ys)), (qt, .inl (cI, ct, .inl ta)), (qh, .inl (cI, ct, .inl he)), (qm, .inl (cI, ct, .inl m1))] ∧ va_S A s.heap H locs ∧ lv_has ls 4 [(3, .int (nI i)), (0, .ref fa), (1, .int (nI a)), (2, .int (nI z))]) (fun x ih H locs ls hI => ?_) (a, ma) rfl rfl ⟨⟨Nat.le_refl _, by omega, h6⟩, hP, hD, hS, (lv_sub hl [0, 1, 2, 3] rfl)⟩
    obtain ⟨i, m1⟩ := x
    obtain ⟨hi, hP, hD, hS, hl⟩ := hI
    have hP : va_P g vwCl [(fa, .inr (3, fg_ kd pn pt qx qy qs pr (nI sl.length) qt qh (nI (ml ++ List.range' a (i - a)).length) qm qd)), (qx, .inl (cI, cx, .inl xs)), (qy, .inl (cI, cx, .inl ys)), (qt, .inl (cI, ct, .inl ta)), (qh, .inl (cI, ct, .inl he)), (qm, .inl (cI, ct, .inl m1))] H := hP
    have hD : va_D A [(fa, .inr (3, fg_ kd pn pt qx qy qs pr (nI sl.length) qt qh (nI (ml ++ List.range' a (i - a)).length) qm qd)), (qx, .inl (cI, cx, .inl xs)), (qy, .inl (cI, cx, .inl ys)), (qt, .inl (cI, ct, .inl ta)), (qh, .inl (cI, ct, .inl he)), (qm, .inl (cI, ct, .inl m1))] := hD
    have hl : lv_has ls 4 [(3, .int (nI i)), (0, .ref fa), (1, .int (nI a)), (2, .int (nI z))] := hl
    show W p l e _ s m _ below meth c H locs (0) (0) _ (F0 m 10 ls [])
    obtain ⟨hi1, hi2, hi3⟩ := hi
    refine lv_iload_n hx hb dX3_preparePart_10 rfl (lv_at hl 0 rfl) ?_
    refine lv_iload_n hx hb dX3_preparePart_11 rfl (lv_at hl 3 rfl) ?_
    refine lv_icmp_gt (tgt := 26) hx hb dX3_preparePart_12 (by decide) (fun c1 => ?_) (fun c1 => ?_)
    · have e1 : i = z + 1 := by have := i_gt c1 (by omega) (by omega); omega
      subst e1
      have es : ppS_ kd xs ys sl a z = sl := by unfold ppS_; rw [if_pos k1]
      have em : ppM_ kd xs ys ml a z = ml ++ List.range' a (z + 1 - a) := by unfold ppM_; rw [if_pos k1]
      rw [← em] at hP hD hi3
      rw [← es] at hP hD h4
      have hP : va_P g vwCl [(fa, .inr (3, fg_ kd pn pt qx qy qs pr (nI (ppS_ kd xs ys sl a z).length) qt qh (nI (ppM_ kd xs ys ml a z).length) qm qd)), (qx, .inl (cI, cx, .inl xs)), (qy, .inl (cI, cx, .inl ys)), (qt, .inl (cI, ct, .inl ta)), (qh, .inl (cI, ct, .inl he)), (qm, .inl (cI, ct, .inl m1))] H := hP
      have hD : va_D A [(fa, .inr (3, fg_ kd pn pt qx qy qs pr (nI (ppS_ kd xs ys sl a z).length) qt qh (nI (ppM_ kd xs ys ml a z).length) qm qd)), (qx, .inl (cI, cx, .inl xs)), (qy, .inl (cI, cx, .inl ys)), (qt, .inl (cI, ct, .inl ta)), (qh, .inl (cI, ct, .inl he)), (qm, .inl (cI, ct, .inl m1))] := hD
      have hP9 := hP.sub (ws' := [(fa, .inr (3, fg_ kd pn pt qx qy qs pr (nI (ppS_ kd xs ys sl a z).length) qt qh (nI (ppM_ kd xs ys ml a z).length) qm qd)), (qx, .inl (cI, cx, .inl xs)), (qy, .inl (cI, cx, .inl ys)), (qt, .inl (cI, ct, .inl ta)), (qh, .inl (cI, ct, .inl he)), (qm, .inl (cI, ct, .inl m1))]) [0, 1, 2, 3, 4, 5] rfl
      have hD9 := hD.sub (ws' := [(fa, .inr (3, fg_ kd pn pt qx qy qs pr (nI (ppS_ kd xs ys sl a z).length) qt qh (nI (ppM_ kd xs ys ml a z).length) qm qd)), (qx, .inl (cI, cx, .inl xs)), (qy, .inl (cI, cx, .inl ys)), (qt, .inl (cI, ct, .inl ta)), (qh, .inl (cI, ct, .inl he)), (qm, .inl (cI, ct, .inl m1))]) [0, 1, 2, 3, 4, 5] (by decide) rfl
      exact W.vret hx hb hr (fun t ht hW => ⟨⟨(ta, he, m1), rfl, ⟨h4, hi3⟩, by rw [ht]; exact hP9, va_K.moved hW.alike hK, hD9⟩, hS.F ht⟩) hS.2.2 dX3_preparePart_26
    · have e1 : i ≤ z := i_ngt c1 (by omega) (by omega)
      have el : (ml ++ List.range' a (i - a)).length < ct := by rw [List.length_append, List.length_range']; omega
      refine lv_aload_n hx hb dX3_preparePart_15 rfl (lv_at hl 1 rfl) ?_
      refine lv_iload_n hx hb dX3_preparePart_16 rfl (lv_at hl 0 rfl) ?_
      have hPc := hP.sub (ws' := [(fa, .inr (3, fg_ kd pn pt qx qy qs pr (nI sl.length) qt qh (nI (ml ++ List.range' a (i - a)).length) qm qd)), (qm, .inl (cI, ct, .inl m1))]) [0, 5] rfl
      have hDc := hD.sub (ws' := [(fa, .inr (3, fg_ kd pn pt qx qy qs pr (nI sl.length) qt qh (nI (ml ++ List.range' a (i - a)).length) qm qd)), (qm, .inl (cI, ct, .inl m1))]) [0, 5] (by decide) rfl
      have hFc := va_free (wc := [(fa, .inr (3, fg_ kd pn pt qx qy qs pr (nI sl.length) qt qh (nI (ml ++ List.range' a (i - a)).length) qm qd)), (qm, .inl (cI, ct, .inl m1))]) hD hS hA [0, 5] rfl
      refine va_callv (va_runV (As := [.int (nI i)]) (rest := []) ⟨hx, hb, hml, hown, hts⟩ (kX3_addMark l g cI cJ cZ H.size fa kd pn pt qx qy qs pr (nI sl.length) qt qh qm qd ct m1 (ml ++ List.range' a (i - a)) i (show ct < 1000000 by omega) el hi3) (cwV 1 hts gX3_preparePart_X3_addMark rfl rfl rfl (by decide +kernel) ⟨Nat.le_of_ble_eq_true rfl, Nat.le_of_ble_eq_true rfl⟩) (pv_ hK hPc hDc (va_recv hK hPc (ci := 3) (q0 := 0) rfl rfl)) rfl rfl hl.1 rfl (lv_room (Nat.le_of_ble_eq_true rfl)) dX3_preparePart_17 ⟨Nat.zero_le _, Nat.zero_le _⟩) hS (fun q _ h => hFc q h) hFc (fun u t H1 locs ht hvm hw1 hB hz1 hk1 hS => ?_)
      obtain ⟨m2, rfl⟩ : ∃ z, z = u := ⟨_, rfl⟩
      obtain ⟨hP1, hK1, hD1⟩ := hB
      rw [ht] at hP1
      obtain ⟨hP, hD⟩ := va_join (wr := [(qx, .inl (cI, cx, .inl xs)), (qy, .inl (cI, cx, .inl ys)), (qt, .inl (cI, ct, .inl ta)), (qh, .inl (cI, ct, .inl he))]) (w1 := [(fa, .inr (3, fg_ kd pn pt qx qy qs pr (nI sl.length) qt qh (nI ((ml ++ List.range' a (i - a)) ++ [i]).length) qm qd)), (qm, .inl (cI, ct, .inl m2))]) hP hD [0, 5] [1, 2, 3, 4] rfl rfl (by decide) (by decide) hk1 hFc hP1 hD1
      clear hPc hDc hFc hP1 hD1 hK1 hk1 hz1 hvm ht
      generalize H1 = H at hP hS ⊢
      have hP : va_P g vwCl [(qx, .inl (cI, cx, .inl xs)), (qy, .inl (cI, cx, .inl ys)), (qt, .inl (cI, ct, .inl ta)), (qh, .inl (cI, ct, .inl he)), (fa, .inr (3, fg_ kd pn pt qx qy qs pr (nI sl.length) qt qh (nI ((ml ++ List.range' a (i - a)) ++ [i]).length) qm qd)), (qm, .inl (cI, ct, .inl m2))] H := hP
      have hD : va_D A [(qx, .inl (cI, cx, .inl xs)), (qy, .inl (cI, cx, .inl ys)), (qt, .inl (cI, ct, .inl ta)), (qh, .inl (cI, ct, .inl he)), (fa, .inr (3, fg_ kd pn pt qx qy qs pr (nI sl.length) qt qh (nI ((ml ++ List.range' a (i - a)) ++ [i]).length) qm qd)), (qm, .inl (cI, ct, .inl m2))] := hD
      have en : (ml ++ List.range' a (i - a)) ++ [i] = ml ++ List.range' a (i + 1 - a) := rg_s hi1
      rw [en] at hP hD hw1
      have hP : va_P g vwCl [(qx, .inl (cI, cx, .inl xs)), (qy, .inl (cI, cx, .inl ys)), (qt, .inl (cI, ct, .inl ta)), (qh, .inl (cI, ct, .inl he)), (fa, .inr (3, fg_ kd pn pt qx qy qs pr (nI sl.length) qt qh (nI (ml ++ List.range' a (i + 1 - a)).length) qm qd)), (qm, .inl (cI, ct, .inl m2))] H := hP
      have hD : va_D A [(qx, .inl (cI, cx, .inl xs)), (qy, .inl (cI, cx, .inl ys)), (qt, .inl (cI, ct, .inl ta)), (qh, .inl (cI, ct, .inl he)), (fa, .inr (3, fg_ kd pn pt qx qy qs pr (nI sl.length) qt qh (nI (ml ++ List.range' a (i + 1 - a)).length) qm qd)), (qm, .inl (cI, ct, .inl m2))] := hD
      refine lv_iinc (v := (nI (i + 1))) (lv' := [(3, .int (nI (i + 1))), (0, .ref fa), (1, .int (nI a)), (2, .int (nI z))]) hx hb dX3_preparePart_20 hl (k := 0) rfl (nI_1 i) (by decide) rfl (fun ls hl => ?_)
      refine lv_goto (tgt := 10) hx hb dX3_preparePart_23 (by decide) ?_
      exact ih (i + 1, m2) (by show z + 1 - (i + 1) < z + 1 - i; omega) H locs ls ⟨⟨by omega, by omega, hw1⟩, (hP.sub [4, 0, 1, 2, 3, 5] rfl), (hD.sub [4, 0, 1, 2, 3, 5] (by decide) rfl), hS, (lv_sub hl [0, 1, 2, 3] rfl)⟩
end
