section
set_option maxHeartbeats 1000000 in
set_option maxRecDepth 100000 in
theorem kX2_highOfProduct (l : Launch) (g : va_G) (cI cJ cZ : ClassId) (sz : Nat) (a : Int64) (b : Int64)  : Met l yX2_highOfProduct wsX2_highOfProduct ({ frames := 0, cells := 0, slots := 0, locals := 0 }) (pc_ g cI cJ cZ [.long a, .long b] [] sz) (va_Ql (fun (r : Int64) (_ : Unit) => r = hip_ a b) (fun (_ : Unit) t => wd_ g cI cJ cZ (va_A [] sz) [] t) (va_A [] sz)) (0) (0) (va_A [] sz) := by
  refine Met.ofW (cc := cX2_highOfProduct) (maxL := 16) (ret := (some .long)) (by decide) rfl ?_
  intro p e s m args below meth c s₁ B hml hv
  obtain ⟨rfl, hsz, hP, hK, hD0⟩ := hv
  have hx := B.exec
  have hb := B.bytes
  have hr := B.returns
  have hts := atoms_spec (ws := wsX2_highOfProduct) B.pre
  have hown : s.vm.findClass RX2 = some m.cls := findClass_of_methodNamed B.named
  have hlocks := B.notSynchronized
  subst hsz
  have hD := hD0.self (sz := s.heap.size)
  generalize hAe : va_A [] s.heap.size = A at hD ⊢
  have hA : ∀ q : Nat, s.heap.size ≤ q → A q := fun q h => by rw [← hAe]; exact Or.inr h
  have hS : va_S A s.heap s.heap [] := va_S.rf
  have hP : va_P g vwCl [] s.heap := hP
  have hl := lv_entry ([.long a, .long b]) (n := 16) (Nat.le_of_ble_eq_true rfl)
  rw [lg_entry_eq]
  generalize (lg_sl ([.long a, .long b]) ++ List.replicate (16 - (lg_sl ([.long a, .long b])).length) Slot.unset).toArray = ls at hl ⊢
  have hl : lv_has ls 16 [(0, .long a), (2, .long b)] := hl
  have hH0 : s.heap = s.heap := rfl
  refine lv_lload_n hx hb dX2_highOfProduct_0 rfl (lv_at hl 0 rfl) ?_
  refine lv_bipush (v := 31) hx hb dX2_highOfProduct_1 (by decide) ?_
  refine lv_lshr hx hb dX2_highOfProduct_3 rfl ?_
  refine lv_lstore (lv' := [(4, .long (a >>> ((31 : Int32).toInt64 &&& 63))), (0, .long a), (2, .long b)]) hx hb dX2_highOfProduct_4 hl (by decide) rfl (fun ls hl => ?_)
  refine lv_lload_n hx hb dX2_highOfProduct_6 rfl (lv_at hl 1 rfl) ?_
  refine lv_ldc2 (v := 2147483647) hx hb hown (hts (.constantLong RX2 65 (2147483647)) (List.mem_of_getElem? (i := 1) rfl)) dX2_highOfProduct_7 ?_
  refine lv_land hx hb dX2_highOfProduct_10 ?_
  refine lv_lstore (lv' := [(6, .long (a &&& 2147483647)), (4, .long (a >>> ((31 : Int32).toInt64 &&& 63))), (0, .long a), (2, .long b)]) hx hb dX2_highOfProduct_11 hl (by decide) rfl (fun ls hl => ?_)
  refine lv_lload_n hx hb dX2_highOfProduct_13 rfl (lv_at hl 3 rfl) ?_
  refine lv_bipush (v := 31) hx hb dX2_highOfProduct_14 (by decide) ?_
  refine lv_lshr hx hb dX2_highOfProduct_16 rfl ?_
  refine lv_lstore (lv' := [(8, .long (b >>> ((31 : Int32).toInt64 &&& 63))), (6, .long (a &&& 2147483647)), (4, .long (a >>> ((31 : Int32).toInt64 &&& 63))), (0, .long a), (2, .long b)]) hx hb dX2_highOfProduct_17 hl (by decide) rfl (fun ls hl => ?_)
  refine lv_lload_n hx hb dX2_highOfProduct_19 rfl (lv_at hl 4 rfl) ?_
  refine lv_ldc2 (v := 2147483647) hx hb hown (hts (.constantLong RX2 65 (2147483647)) (List.mem_of_getElem? (i := 1) rfl)) dX2_highOfProduct_20 ?_
  refine lv_land hx hb dX2_highOfProduct_23 ?_
  refine lv_lstore (lv' := [(10, .long (b &&& 2147483647)), (8, .long (b >>> ((31 : Int32).toInt64 &&& 63))), (6, .long (a &&& 2147483647)), (4, .long (a >>> ((31 : Int32).toInt64 &&& 63))), (0, .long a), (2, .long b)]) hx hb dX2_highOfProduct_24 hl (by decide) rfl (fun ls hl => ?_)
  refine lv_lload hx hb dX2_highOfProduct_26 (lv_at hl 3 rfl) ?_
  refine lv_lload hx hb dX2_highOfProduct_28 (lv_at hl 0 rfl) ?_
  refine lv_lmul hx hb dX2_highOfProduct_30 ?_
  refine lv_lload hx hb dX2_highOfProduct_31 (lv_at hl 2 rfl) ?_
  refine lv_lload hx hb dX2_highOfProduct_33 (lv_at hl 1 rfl) ?_
  refine lv_lmul hx hb dX2_highOfProduct_35 ?_
  refine lv_ladd hx hb dX2_highOfProduct_36 ?_
  refine tpl_ (y := (hmid_ a b)) rfl ?_
  refine lv_lstore (lv' := [(12, .long (hmid_ a b)), (10, .long (b &&& 2147483647)), (8, .long (b >>> ((31 : Int32).toInt64 &&& 63))), (6, .long (a &&& 2147483647)), (4, .long (a >>> ((31 : Int32).toInt64 &&& 63))), (0, .long a), (2, .long b)]) hx hb dX2_highOfProduct_37 hl (by decide) rfl (fun ls hl => ?_)
  refine lv_lload hx hb dX2_highOfProduct_39 (lv_at hl 3 rfl) ?_
  refine lv_lload hx hb dX2_highOfProduct_41 (lv_at hl 1 rfl) ?_
  refine lv_lmul hx hb dX2_highOfProduct_43 ?_
  refine lv_lload hx hb dX2_highOfProduct_44 (lv_at hl 0 rfl) ?_
  refine lv_ldc2 (v := 2147483647) hx hb hown (hts (.constantLong RX2 65 (2147483647)) (List.mem_of_getElem? (i := 1) rfl)) dX2_highOfProduct_46 ?_
  refine lv_land hx hb dX2_highOfProduct_49 ?_
  refine lv_bipush (v := 31) hx hb dX2_highOfProduct_50 (by decide) ?_
  refine lv_lshl hx hb dX2_highOfProduct_52 rfl ?_
  refine lv_ladd hx hb dX2_highOfProduct_53 ?_
  refine tpl_ (y := (hlow_ a b)) rfl ?_
  refine lv_lstore (lv' := [(14, .long (hlow_ a b)), (12, .long (hmid_ a b)), (10, .long (b &&& 2147483647)), (8, .long (b >>> ((31 : Int32).toInt64 &&& 63))), (6, .long (a &&& 2147483647)), (4, .long (a >>> ((31 : Int32).toInt64 &&& 63))), (0, .long a), (2, .long b)]) hx hb dX2_highOfProduct_54 hl (by decide) rfl (fun ls hl => ?_)
  refine lv_lload hx hb dX2_highOfProduct_56 (lv_at hl 5 rfl) ?_
  refine lv_lload hx hb dX2_highOfProduct_58 (lv_at hl 3 rfl) ?_
  refine lv_lmul hx hb dX2_highOfProduct_60 ?_
  refine lv_lload hx hb dX2_highOfProduct_61 (lv_at hl 1 rfl) ?_
  refine lv_bipush (v := 31) hx hb dX2_highOfProduct_63 (by decide) ?_
  refine lv_lushr hx hb dX2_highOfProduct_65 rfl ?_
  refine lv_ladd hx hb dX2_highOfProduct_66 ?_
  refine lv_lload hx hb dX2_highOfProduct_67 (lv_at hl 0 rfl) ?_
  refine lv_bipush (v := 62) hx hb dX2_highOfProduct_69 (by decide) ?_
  refine lv_lushr hx hb dX2_highOfProduct_71 rfl ?_
  refine lv_ladd hx hb dX2_highOfProduct_72 ?_
  have hP9 := hP.sub (ws' := []) [] rfl
  have hD9 := hD.sub (ws' := []) [] (by decide) rfl
  exact W.lret (v := ((((a >>> ((31 : Int32).toInt64 &&& 63)) * (b >>> ((31 : Int32).toInt64 &&& 63))) + (((hmid_ a b).toUInt64 >>> ((31 : Int32).toInt64.toUInt64 &&& Int64.toUInt64 63)).toInt64)) + (((hlow_ a b).toUInt64 >>> ((62 : Int32).toInt64.toUInt64 &&& Int64.toUInt64 63)).toInt64))) hx hb hr (fun t ht hW => ⟨⟨(((a >>> ((31 : Int32).toInt64 &&& 63)) * (b >>> ((31 : Int32).toInt64 &&& 63))) + (((hmid_ a b).toUInt64 >>> ((31 : Int32).toInt64.toUInt64 &&& Int64.toUInt64 63)).toInt64)) + (((hlow_ a b).toUInt64 >>> ((62 : Int32).toInt64.toUInt64 &&& Int64.toUInt64 63)).toInt64), (), rfl, rfl, by rw [ht]; exact hP9, va_K.moved hW.alike hK, hD9⟩, hS.F ht⟩) hS.2.2 dX2_highOfProduct_73

theorem ikX2_clear_X2 : ∀ w ∈ wsX20, w ∈ wsX2_clear := by decide +kernel
set_option maxHeartbeats 1000000 in
set_option maxRecDepth 100000 in
theorem kX2_clear (l : Launch) (g : va_G) (cI cJ cZ : ClassId) (sz : Nat) (ca : Nat) (cs : Int32) (qo : Nat) (qu : Nat) (qg : Nat) (qr : Nat) (qp : Nat)  : Met l yX2_clear wsX2_clear ({ frames := 0, cells := 0, slots := 0, locals := 0 }) (pc_ g cI cJ cZ [.ref ca] [(ca, .inr (2, cu_ cs qo qu qg qr qp))] sz) (va_Qv (fun (_ : Unit) => True) (fun (_ : Unit) t => wd_ g cI cJ cZ (va_A [(ca, .inr (2, cu_ cs qo qu qg qr qp))] sz) [(ca, .inr (2, cu_ 0 qo qu qg qr qp))] t) (va_A [(ca, .inr (2, cu_ cs qo qu qg qr qp))] sz)) (0) (0) (va_A [(ca, .inr (2, cu_ cs qo qu qg qr qp))] sz) := by
  refine Met.ofW (cc := cX2_clear) (maxL := 1) (ret := none) (by decide) rfl ?_
  intro p e s m args below meth c s₁ B hml hv
  obtain ⟨rfl, hsz, hP, hK, hD0⟩ := hv
  have hx := B.exec
  have hb := B.bytes
  have hr := B.returns
  have hts := atoms_spec (ws := wsX2_clear) B.pre
  have hown : s.vm.findClass RX2 = some m.cls := findClass_of_methodNamed B.named
  have hlocks := B.notSynchronized
  subst hsz
  have hD := hD0.self (sz := s.heap.size)
  generalize hAe : va_A [(ca, .inr (2, cu_ cs qo qu qg qr qp))] s.heap.size = A at hD ⊢
  have hA : ∀ q : Nat, s.heap.size ≤ q → A q := fun q h => by rw [← hAe]; exact Or.inr h
  have hS : va_S A s.heap s.heap [] := va_S.rf
  have hP : va_P g vwCl [(ca, .inr (2, cu_ cs qo qu qg qr qp))] s.heap := hP
  have hl := lv_entry ([.ref ca]) (n := 1) (Nat.le_of_ble_eq_true rfl)
  rw [lg_entry_eq]
  generalize (lg_sl ([.ref ca]) ++ List.replicate (1 - (lg_sl ([.ref ca])).length) Slot.unset).toArray = ls at hl ⊢
  have hl : lv_has ls 1 [(0, .ref ca)] := hl
  have hH0 : s.heap = s.heap := rfl
  have hiX2 := ikX2_clear_X2
  refine lv_aload_n hx hb dX2_clear_0 rfl (lv_at hl 0 rfl) ?_
  refine lv_iconst (v := 0) hx hb dX2_clear_1 (by decide) ?_
  refine va_put (D := g) (ci := 2) (v := .int 0) (ty := .int) (C := RX2) (T := TX2) (N := 6) hx hb hts hiX2 tyX2 tyX2_ok nmX2 hown hK hP hD hS 0 rfl rfl 0 (by decide) (hts (.fieldLink RX2 9 "ShapeRelator$Cuts" "size" "I") (List.mem_of_getElem? (i := 1) rfl)) (fun _ h9 => h9) rfl (by decide +kernel) rfl rfl (Nat.le_of_ble_eq_true rfl) dX2_clear_2 (fun H locs hP hD hS => ?_)
  have hP : va_P g vwCl [(ca, .inr (2, cu_ 0 qo qu qg qr qp))] H := hP
  have hD : va_D A [(ca, .inr (2, cu_ 0 qo qu qg qr qp))] := hD
  have hP9 := hP.sub (ws' := [(ca, .inr (2, cu_ 0 qo qu qg qr qp))]) [0] rfl
  have hD9 := hD.sub (ws' := [(ca, .inr (2, cu_ 0 qo qu qg qr qp))]) [0] (by decide) rfl
  exact W.vret hx hb hr (fun t ht hW => ⟨⟨(), rfl, trivial, by rw [ht]; exact hP9, va_K.moved hW.alike hK, hD9⟩, hS.F ht⟩) hS.2.2 dX2_clear_5

theorem ikX2_compare_X2 : ∀ w ∈ wsX20, w ∈ wsX2_compare := by decide +kernel
set_option maxHeartbeats 1000000 in
set_option maxRecDepth 100000 in
theorem kX2_compare (l : Launch) (g : va_G) (cI cJ cZ : ClassId) (sz : Nat) (ca : Nat) (cs : Int32) (qo : Nat) (qu : Nat) (qg : Nat) (qr : Nat) (qp : Nat) (cap : Nat) (ov : Nat → Int64) (un : Nat → Int64) (a : Nat) (b : Nat) (h1 : cap < 1000000) (h2 : a < cap) (h3 : b < cap) : Met l yX2_compare wsX2_compare ({ frames := 1, cells := 0, slots := 0, locals := 35 }) (pc_ g cI cJ cZ [.ref ca, .int (nI a), .int (nI b)] [(ca, .inr (2, cu_ cs qo qu qg qr qp)), (qo, .inl (cJ, cap, .inr (.inl ov))), (qu, .inl (cJ, cap, .inr (.inl un)))] sz) (va_Qi (fun (r : Int32) (_ : Unit) => r = cpf_ (ov a) (un a) (ov b) (un b)) (fun (_ : Unit) t => wd_ g cI cJ cZ (va_A [(ca, .inr (2, cu_ cs qo qu qg qr qp)), (qo, .inl (cJ, cap, .inr (.inl ov))), (qu, .inl (cJ, cap, .inr (.inl un)))] sz) [(ca, .inr (2, cu_ cs qo qu qg qr qp)), (qo, .inl (cJ, cap, .inr (.inl ov))), (qu, .inl (cJ, cap, .inr (.inl un)))] t) (va_A [(ca, .inr (2, cu_ cs qo qu qg qr qp)), (qo, .inl (cJ, cap, .inr (.inl ov))), (qu, .inl (cJ, cap, .inr (.inl un)))] sz)) (0) (0) (va_A [(ca, .inr (2, cu_ cs qo qu qg qr qp)), (qo, .inl (cJ, cap, .inr (.inl ov))), (qu, .inl (cJ, cap, .inr (.inl un)))] sz) := by
  refine Met.ofW (cc := cX2_compare) (maxL := 7) (ret := (some .int)) (by decide) rfl ?_
  intro p e s m args below meth c s₁ B hml hv
  obtain ⟨rfl, hsz, hP, hK, hD0⟩ := hv
  have hx := B.exec
  have hb := B.bytes
  have hr := B.returns
  have hts := atoms_spec (ws := wsX2_compare) B.pre
  have hown : s.vm.findClass RX2 = some m.cls := findClass_of_methodNamed B.named
  have hlocks := B.notSynchronized
  subst hsz
  have hD := hD0.self (sz := s.heap.size)
  generalize hAe : va_A [(ca, .inr (2, cu_ cs qo qu qg qr qp)), (qo, .inl (cJ, cap, .inr (.inl ov))), (qu, .inl (cJ, cap, .inr (.inl un)))] s.heap.size = A at hD ⊢
  have hA : ∀ q : Nat, s.heap.size ≤ q → A q := fun q h => by rw [← hAe]; exact Or.inr h
  have hS : va_S A s.heap s.heap [] := va_S.rf
  have hP : va_P g vwCl [(ca, .inr (2, cu_ cs qo qu qg qr qp)), (qo, .inl (cJ, cap, .inr (.inl ov))), (qu, .inl (cJ, cap, .inr (.inl un)))] s.heap := hP
  have hl := lv_entry ([.ref ca, .int (nI a), .int (nI b)]) (n := 7) (Nat.le_of_ble_eq_true rfl)
  rw [lg_entry_eq]
  generalize (lg_sl ([.ref ca, .int (nI a), .int (nI b)]) ++ List.replicate (7 - (lg_sl ([.ref ca, .int (nI a), .int (nI b)])).length) Slot.unset).toArray = ls at hl ⊢
  have hl : lv_has ls 7 [(0, .ref ca), (1, .int (nI a)), (2, .int (nI b))] := hl
  have hH0 : s.heap = s.heap := rfl
  have hiX2 := ikX2_compare_X2
  refine lv_aload_n hx hb dX2_compare_0 rfl (lv_at hl 0 rfl) ?_
  refine va_get (D := g) (ci := 2) (v := .ref qu) (C := RX2) (T := TX2) (N := 6) hx hb hts hiX2 hown hK hP 0 rfl rfl 2 (by decide) (hts (.fieldLink RX2 19 "ShapeRelator$Cuts" "unders" "[J") (List.mem_of_getElem? (i := 1) rfl)) (fun _ h9 => h9) rfl dX2_compare_1 ?_
  refine lv_iload_n hx hb dX2_compare_4 rfl (lv_at hl 1 rfl) ?_
  refine va_lald (D := g) hx hb hK hP 2 1 rfl rfl (vp_in_nI (h2) (by omega)) dX2_compare_5 ?_
  refine tpl_ (y := (un a)) (by rw [nI_clamp (by omega)]) ?_
  refine lv_aload_n hx hb dX2_compare_6 rfl (lv_at hl 0 rfl) ?_
  refine va_get (D := g) (ci := 2) (v := .ref qu) (C := RX2) (T := TX2) (N := 6) hx hb hts hiX2 hown hK hP 0 rfl rfl 2 (by decide) (hts (.fieldLink RX2 19 "ShapeRelator$Cuts" "unders" "[J") (List.mem_of_getElem? (i := 1) rfl)) (fun _ h9 => h9) rfl dX2_compare_7 ?_
  refine lv_iload_n hx hb dX2_compare_10 rfl (lv_at hl 2 rfl) ?_
  refine va_lald (D := g) hx hb hK hP 2 1 rfl rfl (vp_in_nI (h3) (by omega)) dX2_compare_11 ?_
  refine tpl_ (y := (un b)) (by rw [nI_clamp (by omega)]) ?_
  refine W.lcmp hx hb dX2_compare_12 ?_
  refine lv_if_ne (tgt := 32) hx hb dX2_compare_13 (by decide) (fun c1 => ?_) (fun c1 => ?_)
  · refine lv_aload_n hx hb dX2_compare_32 rfl (lv_at hl 0 rfl) ?_
    refine va_get (D := g) (ci := 2) (v := .ref qo) (C := RX2) (T := TX2) (N := 6) hx hb hts hiX2 hown hK hP 0 rfl rfl 1 (by decide) (hts (.fieldLink RX2 15 "ShapeRelator$Cuts" "overs" "[J") (List.mem_of_getElem? (i := 2) rfl)) (fun _ h9 => h9) rfl dX2_compare_33 ?_
    refine lv_iload_n hx hb dX2_compare_36 rfl (lv_at hl 1 rfl) ?_
    refine va_lald (D := g) hx hb hK hP 1 1 rfl rfl (vp_in_nI (h2) (by omega)) dX2_compare_37 ?_
    refine tpl_ (y := (ov a)) (by rw [nI_clamp (by omega)]) ?_
    refine lv_aload_n hx hb dX2_compare_38 rfl (lv_at hl 0 rfl) ?_
    refine va_get (D := g) (ci := 2) (v := .ref qu) (C := RX2) (T := TX2) (N := 6) hx hb hts hiX2 hown hK hP 0 rfl rfl 2 (by decide) (hts (.fieldLink RX2 19 "ShapeRelator$Cuts" "unders" "[J") (List.mem_of_getElem? (i := 1) rfl)) (fun _ h9 => h9) rfl dX2_compare_39 ?_
    refine lv_iload_n hx hb dX2_compare_42 rfl (lv_at hl 2 rfl) ?_
    refine va_lald (D := g) hx hb hK hP 2 1 rfl rfl (vp_in_nI (h3) (by omega)) dX2_compare_43 ?_
    refine tpl_ (y := (un b)) (by rw [nI_clamp (by omega)]) ?_
    have hPc := hP.sub (ws' := []) [] rfl
    have hDc := hD.sub (ws' := []) [] (by decide) rfl
    have hFc := va_free (wc := []) hD hS hA [] rfl
    refine va_calll (va_runS (As := [.long (ov a), .long (un b)]) (rest := []) ⟨hx, hb, hml, hown, hts⟩ (kX2_highOfProduct l g cI cJ cZ s.heap.size (ov a) (un b)) (va_cwS 2 hts gX2_compare_X2_highOfProduct rfl rfl rfl (by decide +kernel) ⟨Nat.le_of_ble_eq_true rfl, Nat.le_of_ble_eq_true rfl⟩) (ps_ hK hPc hDc) rfl rfl hl.1 rfl (lv_room (Nat.le_of_ble_eq_true rfl)) dX2_compare_44 ⟨Nat.zero_le _, Nat.zero_le _⟩) hS (fun q _ h => hFc q h) hFc (fun r1 u t H1 locs ht hvm hw1 hB hz1 hk1 hS => ?_)
    obtain ⟨hP1, hK1, hD1⟩ := hB
    rw [ht] at hP1
    obtain ⟨hP, hD⟩ := va_join (wr := [(ca, .inr (2, cu_ cs qo qu qg qr qp)), (qo, .inl (cJ, cap, .inr (.inl ov))), (qu, .inl (cJ, cap, .inr (.inl un)))]) (w1 := []) hP hD [] [0, 1, 2] rfl rfl (by decide) (by decide) hk1 hFc hP1 hD1
    clear hPc hDc hFc hP1 hD1 hK1 hk1 hz1 hvm ht
    generalize H1 = H at hP hS ⊢
    have hP : va_P g vwCl [(ca, .inr (2, cu_ cs qo qu qg qr qp)), (qo, .inl (cJ, cap, .inr (.inl ov))), (qu, .inl (cJ, cap, .inr (.inl un)))] H := hP
    have hD : va_D A [(ca, .inr (2, cu_ cs qo qu qg qr qp)), (qo, .inl (cJ, cap, .inr (.inl ov))), (qu, .inl (cJ, cap, .inr (.inl un)))] := hD
    refine lv_lstore_n (lv' := [(3, .long r1), (0, .ref ca), (1, .int (nI a)), (2, .int (nI b))]) hx hb dX2_compare_47 rfl hl (by decide) rfl (fun ls hl => ?_)
    refine lv_aload_n hx hb dX2_compare_48 rfl (lv_at hl 1 rfl) ?_
    refine va_get (D := g) (ci := 2) (v := .ref qo) (C := RX2) (T := TX2) (N := 6) hx hb hts hiX2 hown hK hP 0 rfl rfl 1 (by decide) (hts (.fieldLink RX2 15 "ShapeRelator$Cuts" "overs" "[J") (List.mem_of_getElem? (i := 2) rfl)) (fun _ h9 => h9) rfl dX2_compare_49 ?_
    refine lv_iload_n hx hb dX2_compare_52 rfl (lv_at hl 3 rfl) ?_
    refine va_lald (D := g) hx hb hK hP 1 1 rfl rfl (vp_in_nI (h3) (by omega)) dX2_compare_53 ?_
    refine tpl_ (y := (ov b)) (by rw [nI_clamp (by omega)]) ?_
    refine lv_aload_n hx hb dX2_compare_54 rfl (lv_at hl 1 rfl) ?_
    refine va_get (D := g) (ci := 2) (v := .ref qu) (C := RX2) (T := TX2) (N := 6) hx hb hts hiX2 hown hK hP 0 rfl rfl 2 (by decide) (hts (.fieldLink RX2 19 "ShapeRelator$Cuts" "unders" "[J") (List.mem_of_getElem? (i := 1) rfl)) (fun _ h9 => h9) rfl dX2_compare_55 ?_
    refine lv_iload_n hx hb dX2_compare_58 rfl (lv_at hl 2 rfl) ?_
    refine va_lald (D := g) hx hb hK hP 2 1 rfl rfl (vp_in_nI (h2) (by omega)) dX2_compare_59 ?_
    refine tpl_ (y := (un a)) (by rw [nI_clamp (by omega)]) ?_
    have hPc := hP.sub (ws' := []) [] rfl
    have hDc := hD.sub (ws' := []) [] (by decide) rfl
    have hFc := va_free (wc := []) hD hS hA [] rfl
    refine va_calll (va_runS (As := [.long (ov b), .long (un a)]) (rest := []) ⟨hx, hb, hml, hown, hts⟩ (kX2_highOfProduct l g cI cJ cZ H.size (ov b) (un a)) (va_cwS 2 hts gX2_compare_X2_highOfProduct rfl rfl rfl (by decide +kernel) ⟨Nat.le_of_ble_eq_true rfl, Nat.le_of_ble_eq_true rfl⟩) (ps_ hK hPc hDc) rfl rfl hl.1 rfl (lv_room (Nat.le_of_ble_eq_true rfl)) dX2_compare_60 ⟨Nat.zero_le _, Nat.zero_le _⟩) hS (fun q _ h => hFc q h) hFc (fun r2 u t H1 locs ht hvm hw2 hB hz1 hk1 hS => ?_)
    obtain ⟨hP1, hK1, hD1⟩ := hB
    rw [ht] at hP1
    obtain ⟨hP, hD⟩ := va_join (wr := [(ca, .inr (2, cu_ cs qo qu qg qr qp)), (qo, .inl (cJ, cap, .inr (.inl ov))), (qu, .inl (cJ, cap, .inr (.inl un)))]) (w1 := []) hP hD [] [0, 1, 2] rfl rfl (by decide) (by decide) hk1 hFc hP1 hD1
    clear hPc hDc hFc hP1 hD1 hK1 hk1 hz1 hvm ht
    generalize H1 = H at hP hS ⊢
    have hP : va_P g vwCl [(ca, .inr (2, cu_ cs qo qu qg qr qp)), (qo, .inl (cJ, cap, .inr (.inl ov))), (qu, .inl (cJ, cap, .inr (.inl un)))] H := hP
    have hD : va_D A [(ca, .inr (2, cu_ cs qo qu qg qr qp)), (qo, .inl (cJ, cap, .inr (.inl ov))), (qu, .inl (cJ, cap, .inr (.inl un)))] := hD
    refine lv_lstore (lv' := [(5, .long r2), (3, .long r1), (0, .ref ca), (1, .int (nI a)), (2, .int (nI b))]) hx hb dX2_compare_63 hl (by decide) rfl (fun ls hl => ?_)
    refine lv_lload_n hx hb dX2_compare_65 rfl (lv_at hl 1 rfl) ?_
    refine lv_lload hx hb dX2_compare_66 (lv_at hl 0 rfl) ?_
    refine W.lcmp hx hb dX2_compare_68 ?_
    refine lv_if_eq (tgt := 79) hx hb dX2_compare_69 (by decide) (fun c2 => ?_) (fun c2 => ?_)
    · refine lv_aload_n hx hb dX2_compare_79 rfl (lv_at hl 2 rfl) ?_
      refine va_get (D := g) (ci := 2) (v := .ref qo) (C := RX2) (T := TX2) (N := 6) hx hb hts hiX2 hown hK hP 0 rfl rfl 1 (by decide) (hts (.fieldLink RX2 15 "ShapeRelator$Cuts" "overs" "[J") (List.mem_of_getElem? (i := 2) rfl)) (fun _ h9 => h9) rfl dX2_compare_80 ?_
      refine lv_iload_n hx hb dX2_compare_83 rfl (lv_at hl 3 rfl) ?_
      refine va_lald (D := g) hx hb hK hP 1 1 rfl rfl (vp_in_nI (h2) (by omega)) dX2_compare_84 ?_
      refine tpl_ (y := (ov a)) (by rw [nI_clamp (by omega)]) ?_
      refine lv_aload_n hx hb dX2_compare_85 rfl (lv_at hl 2 rfl) ?_
      refine va_get (D := g) (ci := 2) (v := .ref qu) (C := RX2) (T := TX2) (N := 6) hx hb hts hiX2 hown hK hP 0 rfl rfl 2 (by decide) (hts (.fieldLink RX2 19 "ShapeRelator$Cuts" "unders" "[J") (List.mem_of_getElem? (i := 1) rfl)) (fun _ h9 => h9) rfl dX2_compare_86 ?_
      refine lv_iload_n hx hb dX2_compare_89 rfl (lv_at hl 4 rfl) ?_
      refine va_lald (D := g) hx hb hK hP 2 1 rfl rfl (vp_in_nI (h3) (by omega)) dX2_compare_90 ?_
      refine tpl_ (y := (un b)) (by rw [nI_clamp (by omega)]) ?_
      refine lv_lmul hx hb dX2_compare_91 ?_
      refine lv_ldc2 (v := 4611686018427387903) hx hb hown (hts (.constantLong RX2 63 (4611686018427387903)) (List.mem_of_getElem? (i := 3) rfl)) dX2_compare_92 ?_
      refine lv_land hx hb dX2_compare_95 ?_
      refine lv_aload_n hx hb dX2_compare_96 rfl (lv_at hl 2 rfl) ?_
      refine va_get (D := g) (ci := 2) (v := .ref qo) (C := RX2) (T := TX2) (N := 6) hx hb hts hiX2 hown hK hP 0 rfl rfl 1 (by decide) (hts (.fieldLink RX2 15 "ShapeRelator$Cuts" "overs" "[J") (List.mem_of_getElem? (i := 2) rfl)) (fun _ h9 => h9) rfl dX2_compare_97 ?_
      refine lv_iload_n hx hb dX2_compare_100 rfl (lv_at hl 4 rfl) ?_
      refine va_lald (D := g) hx hb hK hP 1 1 rfl rfl (vp_in_nI (h3) (by omega)) dX2_compare_101 ?_
      refine tpl_ (y := (ov b)) (by rw [nI_clamp (by omega)]) ?_
      refine lv_aload_n hx hb dX2_compare_102 rfl (lv_at hl 2 rfl) ?_
      refine va_get (D := g) (ci := 2) (v := .ref qu) (C := RX2) (T := TX2) (N := 6) hx hb hts hiX2 hown hK hP 0 rfl rfl 2 (by decide) (hts (.fieldLink RX2 19 "ShapeRelator$Cuts" "unders" "[J") (List.mem_of_getElem? (i := 1) rfl)) (fun _ h9 => h9) rfl dX2_compare_103 ?_
      refine lv_iload_n hx hb dX2_compare_106 rfl (lv_at hl 3 rfl) ?_
      refine va_lald (D := g) hx hb hK hP 2 1 rfl rfl (vp_in_nI (h2) (by omega)) dX2_compare_107 ?_
      refine tpl_ (y := (un a)) (by rw [nI_clamp (by omega)]) ?_
      refine lv_lmul hx hb dX2_compare_108 ?_
      refine lv_ldc2 (v := 4611686018427387903) hx hb hown (hts (.constantLong RX2 63 (4611686018427387903)) (List.mem_of_getElem? (i := 3) rfl)) dX2_compare_109 ?_
      refine lv_land hx hb dX2_compare_112 ?_
      have hPc := hP.sub (ws' := []) [] rfl
      have hDc := hD.sub (ws' := []) [] (by decide) rfl
      have hFc := va_free (wc := []) hD hS hA [] rfl
      refine va_calli (va_runS (As := [.long (((ov a) * (un b)) &&& 4611686018427387903), .long (((ov b) * (un a)) &&& 4611686018427387903)]) (rest := []) ⟨hx, hb, hml, hown, hts⟩ (kJ13_compare_74951 l g cI cJ cZ H.size (((ov a) * (un b)) &&& 4611686018427387903) (((ov b) * (un a)) &&& 4611686018427387903)) (va_cwS 2 hts gX2_compare_J13_compare_74951 rfl rfl rfl (by decide +kernel) ⟨Nat.le_of_ble_eq_true rfl, Nat.le_of_ble_eq_true rfl⟩) (ps_ hK hPc hDc) rfl rfl hl.1 rfl (lv_room (Nat.le_of_ble_eq_true rfl)) dX2_compare_113 ⟨Nat.zero_le _, Nat.zero_le _⟩) hS (fun q _ h => hFc q h) hFc (fun r3 u t H1 locs ht hvm hw3 hB hz1 hk1 hS => ?_)
      obtain ⟨hP1, hK1, hD1⟩ := hB
      rw [ht] at hP1
      obtain ⟨hP, hD⟩ := va_join (wr := [(ca, .inr (2, cu_ cs qo qu qg qr qp)), (qo, .inl (cJ, cap, .inr (.inl ov))), (qu, .inl (cJ, cap, .inr (.inl un)))]) (w1 := []) hP hD [] [0, 1, 2] rfl rfl (by decide) (by decide) hk1 hFc hP1 hD1
      clear hPc hDc hFc hP1 hD1 hK1 hk1 hz1 hvm ht
      generalize H1 = H at hP hS ⊢
      have hP : va_P g vwCl [(ca, .inr (2, cu_ cs qo qu qg qr qp)), (qo, .inl (cJ, cap, .inr (.inl ov))), (qu, .inl (cJ, cap, .inr (.inl un)))] H := hP
      have hD : va_D A [(ca, .inr (2, cu_ cs qo qu qg qr qp)), (qo, .inl (cJ, cap, .inr (.inl ov))), (qu, .inl (cJ, cap, .inr (.inl un)))] := hD
      have hP9 := hP.sub (ws' := [(ca, .inr (2, cu_ cs qo qu qg qr qp)), (qo, .inl (cJ, cap, .inr (.inl ov))), (qu, .inl (cJ, cap, .inr (.inl un)))]) [0, 1, 2] rfl
      have hD9 := hD.sub (ws' := [(ca, .inr (2, cu_ cs qo qu qg qr qp)), (qo, .inl (cJ, cap, .inr (.inl ov))), (qu, .inl (cJ, cap, .inr (.inl un)))]) [0, 1, 2] (by decide) rfl
      exact W.iret (v := r3) hx hb hr (fun t ht hW => ⟨⟨r3, (), rfl, by rw [hw3]; exact cpf2_ c1 (by rw [← hw1, ← hw2]; exact c2), by rw [ht]; exact hP9, va_K.moved hW.alike hK, hD9⟩, hS.F ht⟩) hS.2.2 dX2_compare_116
    · refine lv_lload_n hx hb dX2_compare_72 rfl (lv_at hl 1 rfl) ?_
      refine lv_lload hx hb dX2_compare_73 (lv_at hl 0 rfl) ?_
      have hPc := hP.sub (ws' := []) [] rfl
      have hDc := hD.sub (ws' := []) [] (by decide) rfl
      have hFc := va_free (wc := []) hD hS hA [] rfl
      refine va_calli (va_runS (As := [.long r1, .long r2]) (rest := []) ⟨hx, hb, hml, hown, hts⟩ (kJ13_compare_74951 l g cI cJ cZ H.size r1 r2) (va_cwS 2 hts gX2_compare_J13_compare_74951 rfl rfl rfl (by decide +kernel) ⟨Nat.le_of_ble_eq_true rfl, Nat.le_of_ble_eq_true rfl⟩) (ps_ hK hPc hDc) rfl rfl hl.1 rfl (lv_room (Nat.le_of_ble_eq_true rfl)) dX2_compare_75 ⟨Nat.zero_le _, Nat.zero_le _⟩) hS (fun q _ h => hFc q h) hFc (fun r3 u t H1 locs ht hvm hw3 hB hz1 hk1 hS => ?_)
      obtain ⟨hP1, hK1, hD1⟩ := hB
      rw [ht] at hP1
      obtain ⟨hP, hD⟩ := va_join (wr := [(ca, .inr (2, cu_ cs qo qu qg qr qp)), (qo, .inl (cJ, cap, .inr (.inl ov))), (qu, .inl (cJ, cap, .inr (.inl un)))]) (w1 := []) hP hD [] [0, 1, 2] rfl rfl (by decide) (by decide) hk1 hFc hP1 hD1
      clear hPc hDc hFc hP1 hD1 hK1 hk1 hz1 hvm ht
      generalize H1 = H at hP hS ⊢
      have hP : va_P g vwCl [(ca, .inr (2, cu_ cs qo qu qg qr qp)), (qo, .inl (cJ, cap, .inr (.inl ov))), (qu, .inl (cJ, cap, .inr (.inl un)))] H := hP
      have hD : va_D A [(ca, .inr (2, cu_ cs qo qu qg qr qp)), (qo, .inl (cJ, cap, .inr (.inl ov))), (qu, .inl (cJ, cap, .inr (.inl un)))] := hD
      have hP9 := hP.sub (ws' := [(ca, .inr (2, cu_ cs qo qu qg qr qp)), (qo, .inl (cJ, cap, .inr (.inl ov))), (qu, .inl (cJ, cap, .inr (.inl un)))]) [0, 1, 2] rfl
      have hD9 := hD.sub (ws' := [(ca, .inr (2, cu_ cs qo qu qg qr qp)), (qo, .inl (cJ, cap, .inr (.inl ov))), (qu, .inl (cJ, cap, .inr (.inl un)))]) [0, 1, 2] (by decide) rfl
      exact W.iret (v := r3) hx hb hr (fun t ht hW => ⟨⟨r3, (), rfl, by rw [hw3, hw1, hw2]; exact cpf3_ c1 (by rw [← hw1, ← hw2]; exact c2), by rw [ht]; exact hP9, va_K.moved hW.alike hK, hD9⟩, hS.F ht⟩) hS.2.2 dX2_compare_78
  · refine lv_aload_n hx hb dX2_compare_16 rfl (lv_at hl 0 rfl) ?_
    refine va_get (D := g) (ci := 2) (v := .ref qo) (C := RX2) (T := TX2) (N := 6) hx hb hts hiX2 hown hK hP 0 rfl rfl 1 (by decide) (hts (.fieldLink RX2 15 "ShapeRelator$Cuts" "overs" "[J") (List.mem_of_getElem? (i := 2) rfl)) (fun _ h9 => h9) rfl dX2_compare_17 ?_
    refine lv_iload_n hx hb dX2_compare_20 rfl (lv_at hl 1 rfl) ?_
    refine va_lald (D := g) hx hb hK hP 1 1 rfl rfl (vp_in_nI (h2) (by omega)) dX2_compare_21 ?_
    refine tpl_ (y := (ov a)) (by rw [nI_clamp (by omega)]) ?_
    refine lv_aload_n hx hb dX2_compare_22 rfl (lv_at hl 0 rfl) ?_
    refine va_get (D := g) (ci := 2) (v := .ref qo) (C := RX2) (T := TX2) (N := 6) hx hb hts hiX2 hown hK hP 0 rfl rfl 1 (by decide) (hts (.fieldLink RX2 15 "ShapeRelator$Cuts" "overs" "[J") (List.mem_of_getElem? (i := 2) rfl)) (fun _ h9 => h9) rfl dX2_compare_23 ?_
    refine lv_iload_n hx hb dX2_compare_26 rfl (lv_at hl 2 rfl) ?_
    refine va_lald (D := g) hx hb hK hP 1 1 rfl rfl (vp_in_nI (h3) (by omega)) dX2_compare_27 ?_
    refine tpl_ (y := (ov b)) (by rw [nI_clamp (by omega)]) ?_
    have hPc := hP.sub (ws' := []) [] rfl
    have hDc := hD.sub (ws' := []) [] (by decide) rfl
    have hFc := va_free (wc := []) hD hS hA [] rfl
    refine va_calli (va_runS (As := [.long (ov a), .long (ov b)]) (rest := []) ⟨hx, hb, hml, hown, hts⟩ (kJ13_compare_74951 l g cI cJ cZ s.heap.size (ov a) (ov b)) (va_cwS 2 hts gX2_compare_J13_compare_74951 rfl rfl rfl (by decide +kernel) ⟨Nat.le_of_ble_eq_true rfl, Nat.le_of_ble_eq_true rfl⟩) (ps_ hK hPc hDc) rfl rfl hl.1 rfl (lv_room (Nat.le_of_ble_eq_true rfl)) dX2_compare_28 ⟨Nat.zero_le _, Nat.zero_le _⟩) hS (fun q _ h => hFc q h) hFc (fun r3 u t H1 locs ht hvm hw3 hB hz1 hk1 hS => ?_)
    obtain ⟨hP1, hK1, hD1⟩ := hB
    rw [ht] at hP1
    obtain ⟨hP, hD⟩ := va_join (wr := [(ca, .inr (2, cu_ cs qo qu qg qr qp)), (qo, .inl (cJ, cap, .inr (.inl ov))), (qu, .inl (cJ, cap, .inr (.inl un)))]) (w1 := []) hP hD [] [0, 1, 2] rfl rfl (by decide) (by decide) hk1 hFc hP1 hD1
    clear hPc hDc hFc hP1 hD1 hK1 hk1 hz1 hvm ht
    generalize H1 = H at hP hS ⊢
    have hP : va_P g vwCl [(ca, .inr (2, cu_ cs qo qu qg qr qp)), (qo, .inl (cJ, cap, .inr (.inl ov))), (qu, .inl (cJ, cap, .inr (.inl un)))] H := hP
    have hD : va_D A [(ca, .inr (2, cu_ cs qo qu qg qr qp)), (qo, .inl (cJ, cap, .inr (.inl ov))), (qu, .inl (cJ, cap, .inr (.inl un)))] := hD
    have hP9 := hP.sub (ws' := [(ca, .inr (2, cu_ cs qo qu qg qr qp)), (qo, .inl (cJ, cap, .inr (.inl ov))), (qu, .inl (cJ, cap, .inr (.inl un)))]) [0, 1, 2] rfl
    have hD9 := hD.sub (ws' := [(ca, .inr (2, cu_ cs qo qu qg qr qp)), (qo, .inl (cJ, cap, .inr (.inl ov))), (qu, .inl (cJ, cap, .inr (.inl un)))]) [0, 1, 2] (by decide) rfl
    exact W.iret (v := r3) hx hb hr (fun t ht hW => ⟨⟨r3, (), rfl, by rw [hw3]; exact cpf1_ c1, by rw [ht]; exact hP9, va_K.moved hW.alike hK, hD9⟩, hS.F ht⟩) hS.2.2 dX2_compare_31

theorem ikX2_sign_X2 : ∀ w ∈ wsX20, w ∈ wsX2_sign := by decide +kernel
set_option maxHeartbeats 1000000 in
set_option maxRecDepth 100000 in
theorem kX2_sign (l : Launch) (g : va_G) (cI cJ cZ : ClassId) (sz : Nat) (ca : Nat) (cs : Int32) (qo : Nat) (qu : Nat) (qg : Nat) (qr : Nat) (qp : Nat) (cap : Nat) (sg : Nat → Int32) (od : Nat → Int32) (p1 : Nat) (j : Nat) (h1 : cap < 1000000) (h2 : p1 < cap) (h3 : od p1 = nI j) (h4 : j < cap) : Met l yX2_sign wsX2_sign ({ frames := 0, cells := 0, slots := 0, locals := 0 }) (pc_ g cI cJ cZ [.ref ca, .int (nI p1)] [(ca, .inr (2, cu_ cs qo qu qg qr qp)), (qg, .inl (cI, cap, .inl sg)), (qr, .inl (cI, cap, .inl od))] sz) (va_Qi (fun (r : Int32) (_ : Unit) => r = sg j) (fun (_ : Unit) t => wd_ g cI cJ cZ (va_A [(ca, .inr (2, cu_ cs qo qu qg qr qp)), (qg, .inl (cI, cap, .inl sg)), (qr, .inl (cI, cap, .inl od))] sz) [(ca, .inr (2, cu_ cs qo qu qg qr qp)), (qg, .inl (cI, cap, .inl sg)), (qr, .inl (cI, cap, .inl od))] t) (va_A [(ca, .inr (2, cu_ cs qo qu qg qr qp)), (qg, .inl (cI, cap, .inl sg)), (qr, .inl (cI, cap, .inl od))] sz)) (0) (0) (va_A [(ca, .inr (2, cu_ cs qo qu qg qr qp)), (qg, .inl (cI, cap, .inl sg)), (qr, .inl (cI, cap, .inl od))] sz) := by
  refine Met.ofW (cc := cX2_sign) (maxL := 2) (ret := (some .int)) (by decide) rfl ?_
  intro p e s m args below meth c s₁ B hml hv
  obtain ⟨rfl, hsz, hP, hK, hD0⟩ := hv
  have hx := B.exec
  have hb := B.bytes
  have hr := B.returns
  have hts := atoms_spec (ws := wsX2_sign) B.pre
  have hown : s.vm.findClass RX2 = some m.cls := findClass_of_methodNamed B.named
  have hlocks := B.notSynchronized
  subst hsz
  have hD := hD0.self (sz := s.heap.size)
  generalize hAe : va_A [(ca, .inr (2, cu_ cs qo qu qg qr qp)), (qg, .inl (cI, cap, .inl sg)), (qr, .inl (cI, cap, .inl od))] s.heap.size = A at hD ⊢
  have hA : ∀ q : Nat, s.heap.size ≤ q → A q := fun q h => by rw [← hAe]; exact Or.inr h
  have hS : va_S A s.heap s.heap [] := va_S.rf
  have hP : va_P g vwCl [(ca, .inr (2, cu_ cs qo qu qg qr qp)), (qg, .inl (cI, cap, .inl sg)), (qr, .inl (cI, cap, .inl od))] s.heap := hP
  have hl := lv_entry ([.ref ca, .int (nI p1)]) (n := 2) (Nat.le_of_ble_eq_true rfl)
  rw [lg_entry_eq]
  generalize (lg_sl ([.ref ca, .int (nI p1)]) ++ List.replicate (2 - (lg_sl ([.ref ca, .int (nI p1)])).length) Slot.unset).toArray = ls at hl ⊢
  have hl : lv_has ls 2 [(0, .ref ca), (1, .int (nI p1))] := hl
  have hH0 : s.heap = s.heap := rfl
  have hiX2 := ikX2_sign_X2
  refine lv_aload_n hx hb dX2_sign_0 rfl (lv_at hl 0 rfl) ?_
  refine va_get (D := g) (ci := 2) (v := .ref qg) (C := RX2) (T := TX2) (N := 6) hx hb hts hiX2 hown hK hP 0 rfl rfl 3 (by decide) (hts (.fieldLink RX2 22 "ShapeRelator$Cuts" "signs" "[I") (List.mem_of_getElem? (i := 1) rfl)) (fun _ h9 => h9) rfl dX2_sign_1 ?_
  refine lv_aload_n hx hb dX2_sign_4 rfl (lv_at hl 0 rfl) ?_
  refine va_get (D := g) (ci := 2) (v := .ref qr) (C := RX2) (T := TX2) (N := 6) hx hb hts hiX2 hown hK hP 0 rfl rfl 4 (by decide) (hts (.fieldLink RX2 26 "ShapeRelator$Cuts" "order" "[I") (List.mem_of_getElem? (i := 2) rfl)) (fun _ h9 => h9) rfl dX2_sign_5 ?_
  refine lv_iload_n hx hb dX2_sign_8 rfl (lv_at hl 1 rfl) ?_
  refine va_iald (D := g) hx hb hK hP 2 0 rfl rfl (vp_in_nI (h2) (by omega)) dX2_sign_9 ?_
  refine tpi_ (y := (nI j)) (by rw [nI_clamp (by omega), h3]) ?_
  refine va_iald (D := g) hx hb hK hP 1 0 rfl rfl (vp_in_nI (h4) (by omega)) dX2_sign_10 ?_
  refine tpi_ (y := (sg j)) (by rw [nI_clamp (by omega)]) ?_
  have hP9 := hP.sub (ws' := [(ca, .inr (2, cu_ cs qo qu qg qr qp)), (qg, .inl (cI, cap, .inl sg)), (qr, .inl (cI, cap, .inl od))]) [0, 1, 2] rfl
  have hD9 := hD.sub (ws' := [(ca, .inr (2, cu_ cs qo qu qg qr qp)), (qg, .inl (cI, cap, .inl sg)), (qr, .inl (cI, cap, .inl od))]) [0, 1, 2] (by decide) rfl
  exact W.iret (v := (sg j)) hx hb hr (fun t ht hW => ⟨⟨sg j, (), rfl, rfl, by rw [ht]; exact hP9, va_K.moved hW.alike hK, hD9⟩, hS.F ht⟩) hS.2.2 dX2_sign_11

theorem ikX2_isLastOfItsPlace_X2 : ∀ w ∈ wsX20, w ∈ wsX2_isLastOfItsPlace := by decide +kernel
set_option maxHeartbeats 1000000 in
set_option maxRecDepth 100000 in
theorem kX2_isLastOfItsPlace (l : Launch) (g : va_G) (cI cJ cZ : ClassId) (sz : Nat) (ca : Nat) (qo : Nat) (qu : Nat) (qg : Nat) (qr : Nat) (qp : Nat) (cap : Nat) (ov : Nat → Int64) (un : Nat → Int64) (od : Nat → Int32) (k : Nat) (oj : Nat → Nat) (p1 : Nat) (h1 : cap < 1000000) (h2 : k ≤ cap) (h3 : p1 < k) (h4 : ∀ i, i < k → od i = nI (oj i) ∧ oj i < cap) : Met l yX2_isLastOfItsPlace wsX2_isLastOfItsPlace ({ frames := 2, cells := 0, slots := 0, locals := 61 }) (pc_ g cI cJ cZ [.ref ca, .int (nI p1)] [(ca, .inr (2, cu_ (nI k) qo qu qg qr qp)), (qo, .inl (cJ, cap, .inr (.inl ov))), (qu, .inl (cJ, cap, .inr (.inl un))), (qr, .inl (cI, cap, .inl od))] sz) (va_Qi (fun (r : Int32) (_ : Unit) => r = if p1 + 1 < k ∧ cpf_ (ov (oj p1)) (un (oj p1)) (ov (oj (p1 + 1))) (un (oj (p1 + 1))) = 0 then 0 else 1) (fun (_ : Unit) t => wd_ g cI cJ cZ (va_A [(ca, .inr (2, cu_ (nI k) qo qu qg qr qp)), (qo, .inl (cJ, cap, .inr (.inl ov))), (qu, .inl (cJ, cap, .inr (.inl un))), (qr, .inl (cI, cap, .inl od))] sz) [(ca, .inr (2, cu_ (nI k) qo qu qg qr qp)), (qo, .inl (cJ, cap, .inr (.inl ov))), (qu, .inl (cJ, cap, .inr (.inl un))), (qr, .inl (cI, cap, .inl od))] t) (va_A [(ca, .inr (2, cu_ (nI k) qo qu qg qr qp)), (qo, .inl (cJ, cap, .inr (.inl ov))), (qu, .inl (cJ, cap, .inr (.inl un))), (qr, .inl (cI, cap, .inl od))] sz)) (0) (0) (va_A [(ca, .inr (2, cu_ (nI k) qo qu qg qr qp)), (qo, .inl (cJ, cap, .inr (.inl ov))), (qu, .inl (cJ, cap, .inr (.inl un))), (qr, .inl (cI, cap, .inl od))] sz) := by
  refine Met.ofW (cc := cX2_isLastOfItsPlace) (maxL := 2) (ret := (some .boolean)) (by decide) rfl ?_
  intro p e s m args below meth c s₁ B hml hv
  obtain ⟨rfl, hsz, hP, hK, hD0⟩ := hv
  have hx := B.exec
  have hb := B.bytes
  have hr := B.returns
  have hts := atoms_spec (ws := wsX2_isLastOfItsPlace) B.pre
  have hown : s.vm.findClass RX2 = some m.cls := findClass_of_methodNamed B.named
  have hlocks := B.notSynchronized
  subst hsz
  have hD := hD0.self (sz := s.heap.size)
  generalize hAe : va_A [(ca, .inr (2, cu_ (nI k) qo qu qg qr qp)), (qo, .inl (cJ, cap, .inr (.inl ov))), (qu, .inl (cJ, cap, .inr (.inl un))), (qr, .inl (cI, cap, .inl od))] s.heap.size = A at hD ⊢
  have hA : ∀ q : Nat, s.heap.size ≤ q → A q := fun q h => by rw [← hAe]; exact Or.inr h
  have hS : va_S A s.heap s.heap [] := va_S.rf
  have hP : va_P g vwCl [(ca, .inr (2, cu_ (nI k) qo qu qg qr qp)), (qo, .inl (cJ, cap, .inr (.inl ov))), (qu, .inl (cJ, cap, .inr (.inl un))), (qr, .inl (cI, cap, .inl od))] s.heap := hP
  have hl := lv_entry ([.ref ca, .int (nI p1)]) (n := 2) (Nat.le_of_ble_eq_true rfl)
  rw [lg_entry_eq]
  generalize (lg_sl ([.ref ca, .int (nI p1)]) ++ List.replicate (2 - (lg_sl ([.ref ca, .int (nI p1)])).length) Slot.unset).toArray = ls at hl ⊢
  have hl : lv_has ls 2 [(0, .ref ca), (1, .int (nI p1))] := hl
  have hH0 : s.heap = s.heap := rfl
  have hiX2 := ikX2_isLastOfItsPlace_X2
  refine lv_iload_n hx hb dX2_isLastOfItsPlace_0 rfl (lv_at hl 1 rfl) ?_
  refine lv_iconst (v := 1) hx hb dX2_isLastOfItsPlace_1 (by decide) ?_
  refine lv_iadd hx hb dX2_isLastOfItsPlace_2 ?_
  refine tpi_ (y := (nI (p1 + 1))) ((nI_1 p1).symm) ?_
  refine lv_aload_n hx hb dX2_isLastOfItsPlace_3 rfl (lv_at hl 0 rfl) ?_
  refine va_get (D := g) (ci := 2) (v := .int (nI k)) (C := RX2) (T := TX2) (N := 6) hx hb hts hiX2 hown hK hP 0 rfl rfl 0 (by decide) (hts (.fieldLink RX2 9 "ShapeRelator$Cuts" "size" "I") (List.mem_of_getElem? (i := 1) rfl)) (fun _ h9 => h9) rfl dX2_isLastOfItsPlace_4 ?_
  refine lv_icmp_ge (tgt := 31) hx hb dX2_isLastOfItsPlace_7 (by decide) (fun c1 => ?_) (fun c1 => ?_)
  · have q1 : k ≤ p1 + 1 := i_ge c1 (by omega) (by omega)
    refine lv_iconst (v := 1) hx hb dX2_isLastOfItsPlace_31 (by decide) ?_
    refine lv_goto (tgt := 36) hx hb dX2_isLastOfItsPlace_32 (by decide) ?_
    have hP9 := hP.sub (ws' := [(ca, .inr (2, cu_ (nI k) qo qu qg qr qp)), (qo, .inl (cJ, cap, .inr (.inl ov))), (qu, .inl (cJ, cap, .inr (.inl un))), (qr, .inl (cI, cap, .inl od))]) [0, 1, 2, 3] rfl
    have hD9 := hD.sub (ws' := [(ca, .inr (2, cu_ (nI k) qo qu qg qr qp)), (qo, .inl (cJ, cap, .inr (.inl ov))), (qu, .inl (cJ, cap, .inr (.inl un))), (qr, .inl (cI, cap, .inl od))]) [0, 1, 2, 3] (by decide) rfl
    exact W.zret (v := 1) (ty := .boolean) hx hb hr (by decide +kernel) (fun t ht hW => ⟨⟨1, (), rfl, by rw [if_neg (by omega)], by rw [ht]; exact hP9, va_K.moved hW.alike hK, hD9⟩, hS.F ht⟩) hS.2.2 dX2_isLastOfItsPlace_36
  · have q1 : p1 + 1 < k := i_nge c1 (by omega) (by omega)
    refine lv_aload_n hx hb dX2_isLastOfItsPlace_10 rfl (lv_at hl 0 rfl) ?_
    refine lv_aload_n hx hb dX2_isLastOfItsPlace_11 rfl (lv_at hl 0 rfl) ?_
    refine va_get (D := g) (ci := 2) (v := .ref qr) (C := RX2) (T := TX2) (N := 6) hx hb hts hiX2 hown hK hP 0 rfl rfl 4 (by decide) (hts (.fieldLink RX2 26 "ShapeRelator$Cuts" "order" "[I") (List.mem_of_getElem? (i := 2) rfl)) (fun _ h9 => h9) rfl dX2_isLastOfItsPlace_12 ?_
    refine lv_iload_n hx hb dX2_isLastOfItsPlace_15 rfl (lv_at hl 1 rfl) ?_
    refine va_iald (D := g) hx hb hK hP 3 0 rfl rfl (vp_in_nI (show p1 < cap by omega) (by omega)) dX2_isLastOfItsPlace_16 ?_
    refine tpi_ (y := (nI (oj p1))) (by rw [nI_clamp (by omega), (h4 p1 h3).1]) ?_
    refine lv_aload_n hx hb dX2_isLastOfItsPlace_17 rfl (lv_at hl 0 rfl) ?_
    refine va_get (D := g) (ci := 2) (v := .ref qr) (C := RX2) (T := TX2) (N := 6) hx hb hts hiX2 hown hK hP 0 rfl rfl 4 (by decide) (hts (.fieldLink RX2 26 "ShapeRelator$Cuts" "order" "[I") (List.mem_of_getElem? (i := 2) rfl)) (fun _ h9 => h9) rfl dX2_isLastOfItsPlace_18 ?_
    refine lv_iload_n hx hb dX2_isLastOfItsPlace_21 rfl (lv_at hl 1 rfl) ?_
    refine lv_iconst (v := 1) hx hb dX2_isLastOfItsPlace_22 (by decide) ?_
    refine lv_iadd hx hb dX2_isLastOfItsPlace_23 ?_
    refine tpi_ (y := (nI (p1 + 1))) ((nI_1 p1).symm) ?_
    refine va_iald (D := g) hx hb hK hP 3 0 rfl rfl (vp_in_nI (show p1 + 1 < cap by omega) (by omega)) dX2_isLastOfItsPlace_24 ?_
    refine tpi_ (y := (nI (oj (p1 + 1)))) (by rw [nI_clamp (by omega), (h4 (p1 + 1) q1).1]) ?_
    have hPc := hP.sub (ws' := [(ca, .inr (2, cu_ (nI k) qo qu qg qr qp)), (qo, .inl (cJ, cap, .inr (.inl ov))), (qu, .inl (cJ, cap, .inr (.inl un)))]) [0, 1, 2] rfl
    have hDc := hD.sub (ws' := [(ca, .inr (2, cu_ (nI k) qo qu qg qr qp)), (qo, .inl (cJ, cap, .inr (.inl ov))), (qu, .inl (cJ, cap, .inr (.inl un)))]) [0, 1, 2] (by decide) rfl
    have hFc := va_free (wc := [(ca, .inr (2, cu_ (nI k) qo qu qg qr qp)), (qo, .inl (cJ, cap, .inr (.inl ov))), (qu, .inl (cJ, cap, .inr (.inl un)))]) hD hS hA [0, 1, 2] rfl
    refine va_calli (va_runV (As := [.int (nI (oj p1)), .int (nI (oj (p1 + 1)))]) (rest := []) ⟨hx, hb, hml, hown, hts⟩ (kX2_compare l g cI cJ cZ s.heap.size ca (nI k) qo qu qg qr qp cap ov un (oj p1) (oj (p1 + 1)) h1 ((h4 p1 h3).2) ((h4 (p1 + 1) q1).2)) (cwV 2 hts gX2_isLastOfItsPlace_X2_compare rfl rfl rfl (by decide +kernel) ⟨Nat.le_of_ble_eq_true rfl, Nat.le_of_ble_eq_true rfl⟩) (pv_ hK hPc hDc (va_recv hK hPc (ci := 2) (q0 := 0) rfl rfl)) rfl rfl hl.1 rfl (lv_room (Nat.le_of_ble_eq_true rfl)) dX2_isLastOfItsPlace_25 ⟨Nat.zero_le _, Nat.zero_le _⟩) hS (fun q _ h => hFc q h) hFc (fun r1 u t H1 locs ht hvm hw1 hB hz1 hk1 hS => ?_)
    obtain ⟨hP1, hK1, hD1⟩ := hB
    rw [ht] at hP1
    obtain ⟨hP, hD⟩ := va_join (wr := [(qr, .inl (cI, cap, .inl od))]) (w1 := [(ca, .inr (2, cu_ (nI k) qo qu qg qr qp)), (qo, .inl (cJ, cap, .inr (.inl ov))), (qu, .inl (cJ, cap, .inr (.inl un)))]) hP hD [0, 1, 2] [3] rfl rfl (by decide) (by decide) hk1 hFc hP1 hD1
    clear hPc hDc hFc hP1 hD1 hK1 hk1 hz1 hvm ht
    generalize H1 = H at hP hS ⊢
    have hP : va_P g vwCl [(qr, .inl (cI, cap, .inl od)), (ca, .inr (2, cu_ (nI k) qo qu qg qr qp)), (qo, .inl (cJ, cap, .inr (.inl ov))), (qu, .inl (cJ, cap, .inr (.inl un)))] H := hP
    have hD : va_D A [(qr, .inl (cI, cap, .inl od)), (ca, .inr (2, cu_ (nI k) qo qu qg qr qp)), (qo, .inl (cJ, cap, .inr (.inl ov))), (qu, .inl (cJ, cap, .inr (.inl un)))] := hD
    refine lv_if_eq (tgt := 35) hx hb dX2_isLastOfItsPlace_28 (by decide) (fun c2 => ?_) (fun c2 => ?_)
    · refine lv_iconst (v := 0) hx hb dX2_isLastOfItsPlace_35 (by decide) ?_
      have hP9 := hP.sub (ws' := [(ca, .inr (2, cu_ (nI k) qo qu qg qr qp)), (qo, .inl (cJ, cap, .inr (.inl ov))), (qu, .inl (cJ, cap, .inr (.inl un))), (qr, .inl (cI, cap, .inl od))]) [1, 2, 3, 0] rfl
      have hD9 := hD.sub (ws' := [(ca, .inr (2, cu_ (nI k) qo qu qg qr qp)), (qo, .inl (cJ, cap, .inr (.inl ov))), (qu, .inl (cJ, cap, .inr (.inl un))), (qr, .inl (cI, cap, .inl od))]) [1, 2, 3, 0] (by decide) rfl
      exact W.zret (v := 0) (ty := .boolean) hx hb hr (by decide +kernel) (fun t ht hW => ⟨⟨0, (), rfl, by rw [if_pos ⟨q1, by rw [← hw1]; exact c2⟩], by rw [ht]; exact hP9, va_K.moved hW.alike hK, hD9⟩, hS.F ht⟩) hS.2.2 dX2_isLastOfItsPlace_36
    · refine lv_iconst (v := 1) hx hb dX2_isLastOfItsPlace_31 (by decide) ?_
      refine lv_goto (tgt := 36) hx hb dX2_isLastOfItsPlace_32 (by decide) ?_
      have hP9 := hP.sub (ws' := [(ca, .inr (2, cu_ (nI k) qo qu qg qr qp)), (qo, .inl (cJ, cap, .inr (.inl ov))), (qu, .inl (cJ, cap, .inr (.inl un))), (qr, .inl (cI, cap, .inl od))]) [1, 2, 3, 0] rfl
      have hD9 := hD.sub (ws' := [(ca, .inr (2, cu_ (nI k) qo qu qg qr qp)), (qo, .inl (cJ, cap, .inr (.inl ov))), (qu, .inl (cJ, cap, .inr (.inl un))), (qr, .inl (cI, cap, .inl od))]) [1, 2, 3, 0] (by decide) rfl
      exact W.zret (v := 1) (ty := .boolean) hx hb hr (by decide +kernel) (fun t ht hW => ⟨⟨1, (), rfl, by rw [if_neg (fun h => c2 (by rw [hw1]; exact h.2))], by rw [ht]; exact hP9, va_K.moved hW.alike hK, hD9⟩, hS.F ht⟩) hS.2.2 dX2_isLastOfItsPlace_36

theorem ikX2_add_X2 : ∀ w ∈ wsX20, w ∈ wsX2_add := by decide +kernel
set_option maxHeartbeats 1000000 in
set_option maxRecDepth 100000 in
theorem kX2_add (l : Launch) (g : va_G) (cI cJ cZ : ClassId) (sz : Nat) (ca : Nat) (qo : Nat) (qu : Nat) (qg : Nat) (qr : Nat) (qp : Nat) (cap : Nat) (ov : Nat → Int64) (un : Nat → Int64) (sg : Nat → Int32) (od : Nat → Int32) (sp : Nat → Int32) (k : Nat) (o : Int64) (d : Int64) (sn : Int32) (mc : Nat) (ms : Nat) (h1 : cap < 100000) (h2 : k ≤ cap) (h0 : 0 < cap) (hm : k = cap → 5 ≤ mc ∧ 10 * cap ≤ ms) : Met l yX2_add wsX2_add ({ frames := 2, cells := mc, slots := ms, locals := 82 }) (pc_ g cI cJ cZ [.ref ca, .long o, .long d, .int sn] [(ca, .inr (2, cu_ (nI k) qo qu qg qr qp)), (qo, .inl (cJ, cap, .inr (.inl ov))), (qu, .inl (cJ, cap, .inr (.inl un))), (qg, .inl (cI, cap, .inl sg)), (qr, .inl (cI, cap, .inl od)), (qp, .inl (cI, cap, .inl sp))] sz) (va_Qv (fun (u : (Nat → Int64) × (Nat → Int64) × (Nat → Int32) × (Nat → Int32) × (Nat → Int32)) => match u with | (ov2, un2, sg2, od2, sp2) => (∀ i, i < k → ov2 i = ov i ∧ un2 i = un i ∧ sg2 i = sg i ∧ od2 i = od i) ∧ ov2 k = o ∧ un2 k = d ∧ sg2 k = sn ∧ od2 k = nI k) (fun (u : (Nat → Int64) × (Nat → Int64) × (Nat → Int32) × (Nat → Int32) × (Nat → Int32)) t => match u with | (ov2, un2, sg2, od2, sp2) => ∃ (qo2 : Nat) (qu2 : Nat) (qg2 : Nat) (qr2 : Nat) (qp2 : Nat), wd_ g cI cJ cZ (va_A [(ca, .inr (2, cu_ (nI k) qo qu qg qr qp)), (qo, .inl (cJ, cap, .inr (.inl ov))), (qu, .inl (cJ, cap, .inr (.inl un))), (qg, .inl (cI, cap, .inl sg)), (qr, .inl (cI, cap, .inl od)), (qp, .inl (cI, cap, .inl sp))] sz) [(ca, .inr (2, cu_ (nI (k + 1)) qo2 qu2 qg2 qr2 qp2)), (qo2, .inl (cJ, gcap_ k cap, .inr (.inl ov2))), (qu2, .inl (cJ, gcap_ k cap, .inr (.inl un2))), (qg2, .inl (cI, gcap_ k cap, .inl sg2)), (qr2, .inl (cI, gcap_ k cap, .inl od2)), (qp2, .inl (cI, gcap_ k cap, .inl sp2))] t) (va_A [(ca, .inr (2, cu_ (nI k) qo qu qg qr qp)), (qo, .inl (cJ, cap, .inr (.inl ov))), (qu, .inl (cJ, cap, .inr (.inl un))), (qg, .inl (cI, cap, .inl sg)), (qr, .inl (cI, cap, .inl od)), (qp, .inl (cI, cap, .inl sp))] sz)) (mc) (ms) (va_A [(ca, .inr (2, cu_ (nI k) qo qu qg qr qp)), (qo, .inl (cJ, cap, .inr (.inl ov))), (qu, .inl (cJ, cap, .inr (.inl un))), (qg, .inl (cI, cap, .inl sg)), (qr, .inl (cI, cap, .inl od)), (qp, .inl (cI, cap, .inl sp))] sz) := by
  refine Met.ofW (cc := cX2_add) (maxL := 6) (ret := none) (by decide) rfl ?_
  intro p e s m args below meth c s₁ B hml hv
  obtain ⟨rfl, hsz, hP, hK, hD0⟩ := hv
  have hx := B.exec
  have hb := B.bytes
  have hr := B.returns
  have hts := atoms_spec (ws := wsX2_add) B.pre
  have hown : s.vm.findClass RX2 = some m.cls := findClass_of_methodNamed B.named
  have hlocks := B.notSynchronized
  subst hsz
  have hD := hD0.self (sz := s.heap.size)
  generalize hAe : va_A [(ca, .inr (2, cu_ (nI k) qo qu qg qr qp)), (qo, .inl (cJ, cap, .inr (.inl ov))), (qu, .inl (cJ, cap, .inr (.inl un))), (qg, .inl (cI, cap, .inl sg)), (qr, .inl (cI, cap, .inl od)), (qp, .inl (cI, cap, .inl sp))] s.heap.size = A at hD ⊢
  have hA : ∀ q : Nat, s.heap.size ≤ q → A q := fun q h => by rw [← hAe]; exact Or.inr h
  have hS : va_S A s.heap s.heap [] := va_S.rf
  have hP : va_P g vwCl [(ca, .inr (2, cu_ (nI k) qo qu qg qr qp)), (qo, .inl (cJ, cap, .inr (.inl ov))), (qu, .inl (cJ, cap, .inr (.inl un))), (qg, .inl (cI, cap, .inl sg)), (qr, .inl (cI, cap, .inl od)), (qp, .inl (cI, cap, .inl sp))] s.heap := hP
  have hl := lv_entry ([.ref ca, .long o, .long d, .int sn]) (n := 6) (Nat.le_of_ble_eq_true rfl)
  rw [lg_entry_eq]
  generalize (lg_sl ([.ref ca, .long o, .long d, .int sn]) ++ List.replicate (6 - (lg_sl ([.ref ca, .long o, .long d, .int sn])).length) Slot.unset).toArray = ls at hl ⊢
  have hl : lv_has ls 6 [(0, .ref ca), (1, .long o), (3, .long d), (5, .int sn)] := hl
  have hH0 : s.heap = s.heap := rfl
  have hiX2 := ikX2_add_X2
  refine lv_aload_n hx hb dX2_add_0 rfl (lv_at hl 0 rfl) ?_
  refine va_get (D := g) (ci := 2) (v := .int (nI k)) (C := RX2) (T := TX2) (N := 6) hx hb hts hiX2 hown hK hP 0 rfl rfl 0 (by decide) (hts (.fieldLink RX2 9 "ShapeRelator$Cuts" "size" "I") (List.mem_of_getElem? (i := 1) rfl)) (fun _ h9 => h9) rfl dX2_add_1 ?_
  refine lv_aload_n hx hb dX2_add_4 rfl (lv_at hl 0 rfl) ?_
  refine va_get (D := g) (ci := 2) (v := .ref qg) (C := RX2) (T := TX2) (N := 6) hx hb hts hiX2 hown hK hP 0 rfl rfl 3 (by decide) (hts (.fieldLink RX2 22 "ShapeRelator$Cuts" "signs" "[I") (List.mem_of_getElem? (i := 2) rfl)) (fun _ h9 => h9) rfl dX2_add_5 ?_
  refine va_alen (D := g) (v := nI cap) hx hb hK hP 3 0 rfl rfl rfl dX2_add_8 ?_
  refine lv_icmp_ne (tgt := 92) hx hb dX2_add_9 (by decide) (fun c1 => ?_) (fun c1 => ?_)
  · have q1 : k < cap := Nat.lt_of_le_of_ne h2 (fun h => c1 (by rw [h]))
    refine lv_aload_n hx hb dX2_add_92 rfl (lv_at hl 0 rfl) ?_
    refine va_get (D := g) (ci := 2) (v := .ref qo) (C := RX2) (T := TX2) (N := 6) hx hb hts hiX2 hown hK hP 0 rfl rfl 1 (by decide) (hts (.fieldLink RX2 15 "ShapeRelator$Cuts" "overs" "[J") (List.mem_of_getElem? (i := 3) rfl)) (fun _ h9 => h9) rfl dX2_add_93 ?_
    refine lv_aload_n hx hb dX2_add_96 rfl (lv_at hl 0 rfl) ?_
    refine va_get (D := g) (ci := 2) (v := .int (nI k)) (C := RX2) (T := TX2) (N := 6) hx hb hts hiX2 hown hK hP 0 rfl rfl 0 (by decide) (hts (.fieldLink RX2 9 "ShapeRelator$Cuts" "size" "I") (List.mem_of_getElem? (i := 1) rfl)) (fun _ h9 => h9) rfl dX2_add_97 ?_
    refine lv_lload_n hx hb dX2_add_100 rfl (lv_at hl 1 rfl) ?_
    refine va_last (D := g) hx hb hK hP hD hS 1 1 rfl rfl (vp_in_nI (show k < cap by omega) (by omega)) dX2_add_101 (fun H locs hP hD hS => ?_)
    rw [nI_clamp (show k < 2 ^ 31 by omega)] at hP hD
    have hP : va_P g vwCl [(ca, .inr (2, cu_ (nI k) qo qu qg qr qp)), (qo, .inl (cJ, cap, .inr (.inl (vp_updL ov k o)))), (qu, .inl (cJ, cap, .inr (.inl un))), (qg, .inl (cI, cap, .inl sg)), (qr, .inl (cI, cap, .inl od)), (qp, .inl (cI, cap, .inl sp))] H := hP
    have hD : va_D A [(ca, .inr (2, cu_ (nI k) qo qu qg qr qp)), (qo, .inl (cJ, cap, .inr (.inl (vp_updL ov k o)))), (qu, .inl (cJ, cap, .inr (.inl un))), (qg, .inl (cI, cap, .inl sg)), (qr, .inl (cI, cap, .inl od)), (qp, .inl (cI, cap, .inl sp))] := hD
    refine lv_aload_n hx hb dX2_add_102 rfl (lv_at hl 0 rfl) ?_
    refine va_get (D := g) (ci := 2) (v := .ref qu) (C := RX2) (T := TX2) (N := 6) hx hb hts hiX2 hown hK hP 0 rfl rfl 2 (by decide) (hts (.fieldLink RX2 19 "ShapeRelator$Cuts" "unders" "[J") (List.mem_of_getElem? (i := 4) rfl)) (fun _ h9 => h9) rfl dX2_add_103 ?_
    refine lv_aload_n hx hb dX2_add_106 rfl (lv_at hl 0 rfl) ?_
    refine va_get (D := g) (ci := 2) (v := .int (nI k)) (C := RX2) (T := TX2) (N := 6) hx hb hts hiX2 hown hK hP 0 rfl rfl 0 (by decide) (hts (.fieldLink RX2 9 "ShapeRelator$Cuts" "size" "I") (List.mem_of_getElem? (i := 1) rfl)) (fun _ h9 => h9) rfl dX2_add_107 ?_
    refine lv_lload_n hx hb dX2_add_110 rfl (lv_at hl 2 rfl) ?_
    refine va_last (D := g) hx hb hK hP hD hS 2 1 rfl rfl (vp_in_nI (show k < cap by omega) (by omega)) dX2_add_111 (fun H locs hP hD hS => ?_)
    rw [nI_clamp (show k < 2 ^ 31 by omega)] at hP hD
    have hP : va_P g vwCl [(ca, .inr (2, cu_ (nI k) qo qu qg qr qp)), (qo, .inl (cJ, cap, .inr (.inl (vp_updL ov k o)))), (qu, .inl (cJ, cap, .inr (.inl (vp_updL un k d)))), (qg, .inl (cI, cap, .inl sg)), (qr, .inl (cI, cap, .inl od)), (qp, .inl (cI, cap, .inl sp))] H := hP
    have hD : va_D A [(ca, .inr (2, cu_ (nI k) qo qu qg qr qp)), (qo, .inl (cJ, cap, .inr (.inl (vp_updL ov k o)))), (qu, .inl (cJ, cap, .inr (.inl (vp_updL un k d)))), (qg, .inl (cI, cap, .inl sg)), (qr, .inl (cI, cap, .inl od)), (qp, .inl (cI, cap, .inl sp))] := hD
    refine lv_aload_n hx hb dX2_add_112 rfl (lv_at hl 0 rfl) ?_
    refine va_get (D := g) (ci := 2) (v := .ref qg) (C := RX2) (T := TX2) (N := 6) hx hb hts hiX2 hown hK hP 0 rfl rfl 3 (by decide) (hts (.fieldLink RX2 22 "ShapeRelator$Cuts" "signs" "[I") (List.mem_of_getElem? (i := 2) rfl)) (fun _ h9 => h9) rfl dX2_add_113 ?_
    refine lv_aload_n hx hb dX2_add_116 rfl (lv_at hl 0 rfl) ?_
    refine va_get (D := g) (ci := 2) (v := .int (nI k)) (C := RX2) (T := TX2) (N := 6) hx hb hts hiX2 hown hK hP 0 rfl rfl 0 (by decide) (hts (.fieldLink RX2 9 "ShapeRelator$Cuts" "size" "I") (List.mem_of_getElem? (i := 1) rfl)) (fun _ h9 => h9) rfl dX2_add_117 ?_
    refine lv_iload hx hb dX2_add_120 (lv_at hl 3 rfl) ?_
    refine va_iast (D := g) hx hb hK hP hD hS 3 0 rfl rfl (vp_in_nI (show k < cap by omega) (by omega)) dX2_add_122 (fun H locs hP hD hS => ?_)
    rw [nI_clamp (show k < 2 ^ 31 by omega)] at hP hD
    have hP : va_P g vwCl [(ca, .inr (2, cu_ (nI k) qo qu qg qr qp)), (qo, .inl (cJ, cap, .inr (.inl (vp_updL ov k o)))), (qu, .inl (cJ, cap, .inr (.inl (vp_updL un k d)))), (qg, .inl (cI, cap, .inl (upd sg k sn))), (qr, .inl (cI, cap, .inl od)), (qp, .inl (cI, cap, .inl sp))] H := hP
    have hD : va_D A [(ca, .inr (2, cu_ (nI k) qo qu qg qr qp)), (qo, .inl (cJ, cap, .inr (.inl (vp_updL ov k o)))), (qu, .inl (cJ, cap, .inr (.inl (vp_updL un k d)))), (qg, .inl (cI, cap, .inl (upd sg k sn))), (qr, .inl (cI, cap, .inl od)), (qp, .inl (cI, cap, .inl sp))] := hD
    refine lv_aload_n hx hb dX2_add_123 rfl (lv_at hl 0 rfl) ?_
    refine va_get (D := g) (ci := 2) (v := .ref qr) (C := RX2) (T := TX2) (N := 6) hx hb hts hiX2 hown hK hP 0 rfl rfl 4 (by decide) (hts (.fieldLink RX2 26 "ShapeRelator$Cuts" "order" "[I") (List.mem_of_getElem? (i := 5) rfl)) (fun _ h9 => h9) rfl dX2_add_124 ?_
    refine lv_aload_n hx hb dX2_add_127 rfl (lv_at hl 0 rfl) ?_
    refine va_get (D := g) (ci := 2) (v := .int (nI k)) (C := RX2) (T := TX2) (N := 6) hx hb hts hiX2 hown hK hP 0 rfl rfl 0 (by decide) (hts (.fieldLink RX2 9 "ShapeRelator$Cuts" "size" "I") (List.mem_of_getElem? (i := 1) rfl)) (fun _ h9 => h9) rfl dX2_add_128 ?_
    refine lv_aload_n hx hb dX2_add_131 rfl (lv_at hl 0 rfl) ?_
    refine va_get (D := g) (ci := 2) (v := .int (nI k)) (C := RX2) (T := TX2) (N := 6) hx hb hts hiX2 hown hK hP 0 rfl rfl 0 (by decide) (hts (.fieldLink RX2 9 "ShapeRelator$Cuts" "size" "I") (List.mem_of_getElem? (i := 1) rfl)) (fun _ h9 => h9) rfl dX2_add_132 ?_
    refine va_iast (D := g) hx hb hK hP hD hS 4 0 rfl rfl (vp_in_nI (show k < cap by omega) (by omega)) dX2_add_135 (fun H locs hP hD hS => ?_)
    rw [nI_clamp (show k < 2 ^ 31 by omega)] at hP hD
    have hP : va_P g vwCl [(ca, .inr (2, cu_ (nI k) qo qu qg qr qp)), (qo, .inl (cJ, cap, .inr (.inl (vp_updL ov k o)))), (qu, .inl (cJ, cap, .inr (.inl (vp_updL un k d)))), (qg, .inl (cI, cap, .inl (upd sg k sn))), (qr, .inl (cI, cap, .inl (upd od k (nI k)))), (qp, .inl (cI, cap, .inl sp))] H := hP
    have hD : va_D A [(ca, .inr (2, cu_ (nI k) qo qu qg qr qp)), (qo, .inl (cJ, cap, .inr (.inl (vp_updL ov k o)))), (qu, .inl (cJ, cap, .inr (.inl (vp_updL un k d)))), (qg, .inl (cI, cap, .inl (upd sg k sn))), (qr, .inl (cI, cap, .inl (upd od k (nI k)))), (qp, .inl (cI, cap, .inl sp))] := hD
    refine lv_aload_n hx hb dX2_add_136 rfl (lv_at hl 0 rfl) ?_
    refine lv_dup hx hb dX2_add_137 rfl ?_
    refine va_get (D := g) (ci := 2) (v := .int (nI k)) (C := RX2) (T := TX2) (N := 6) hx hb hts hiX2 hown hK hP 0 rfl rfl 0 (by decide) (hts (.fieldLink RX2 9 "ShapeRelator$Cuts" "size" "I") (List.mem_of_getElem? (i := 1) rfl)) (fun _ h9 => h9) rfl dX2_add_138 ?_
    refine lv_iconst (v := 1) hx hb dX2_add_141 (by decide) ?_
    refine lv_iadd hx hb dX2_add_142 ?_
    refine tpi_ (y := (nI (k + 1))) ((nI_1 k).symm) ?_
    refine va_put (D := g) (ci := 2) (v := .int (nI (k + 1))) (ty := .int) (C := RX2) (T := TX2) (N := 6) hx hb hts hiX2 tyX2 tyX2_ok nmX2 hown hK hP hD hS 0 rfl rfl 0 (by decide) (hts (.fieldLink RX2 9 "ShapeRelator$Cuts" "size" "I") (List.mem_of_getElem? (i := 1) rfl)) (fun _ h9 => h9) rfl (by decide +kernel) rfl rfl (Nat.le_of_ble_eq_true rfl) dX2_add_143 (fun H locs hP hD hS => ?_)
    have hP : va_P g vwCl [(ca, .inr (2, cu_ (nI (k + 1)) qo qu qg qr qp)), (qo, .inl (cJ, cap, .inr (.inl (vp_updL ov k o)))), (qu, .inl (cJ, cap, .inr (.inl (vp_updL un k d)))), (qg, .inl (cI, cap, .inl (upd sg k sn))), (qr, .inl (cI, cap, .inl (upd od k (nI k)))), (qp, .inl (cI, cap, .inl sp))] H := hP
    have hD : va_D A [(ca, .inr (2, cu_ (nI (k + 1)) qo qu qg qr qp)), (qo, .inl (cJ, cap, .inr (.inl (vp_updL ov k o)))), (qu, .inl (cJ, cap, .inr (.inl (vp_updL un k d)))), (qg, .inl (cI, cap, .inl (upd sg k sn))), (qr, .inl (cI, cap, .inl (upd od k (nI k)))), (qp, .inl (cI, cap, .inl sp))] := hD
    have en : cap = gcap_ k cap := by unfold gcap_; rw [if_neg (by omega)]
    rw [en] at hP hD
    have hP : va_P g vwCl [(ca, .inr (2, cu_ (nI (k + 1)) qo qu qg qr qp)), (qo, .inl (cJ, gcap_ k cap, .inr (.inl (vp_updL ov k o)))), (qu, .inl (cJ, gcap_ k cap, .inr (.inl (vp_updL un k d)))), (qg, .inl (cI, gcap_ k cap, .inl (upd sg k sn))), (qr, .inl (cI, gcap_ k cap, .inl (upd od k (nI k)))), (qp, .inl (cI, gcap_ k cap, .inl sp))] H := hP
    have hD : va_D A [(ca, .inr (2, cu_ (nI (k + 1)) qo qu qg qr qp)), (qo, .inl (cJ, gcap_ k cap, .inr (.inl (vp_updL ov k o)))), (qu, .inl (cJ, gcap_ k cap, .inr (.inl (vp_updL un k d)))), (qg, .inl (cI, gcap_ k cap, .inl (upd sg k sn))), (qr, .inl (cI, gcap_ k cap, .inl (upd od k (nI k)))), (qp, .inl (cI, gcap_ k cap, .inl sp))] := hD
    refine W.widen (k := mc) (n := ms) (by omega) (by omega) ?_
    have hP9 := hP.sub (ws' := [(ca, .inr (2, cu_ (nI (k + 1)) qo qu qg qr qp)), (qo, .inl (cJ, gcap_ k cap, .inr (.inl (vp_updL ov k o)))), (qu, .inl (cJ, gcap_ k cap, .inr (.inl (vp_updL un k d)))), (qg, .inl (cI, gcap_ k cap, .inl (upd sg k sn))), (qr, .inl (cI, gcap_ k cap, .inl (upd od k (nI k)))), (qp, .inl (cI, gcap_ k cap, .inl sp))]) [0, 1, 2, 3, 4, 5] rfl
    have hD9 := hD.sub (ws' := [(ca, .inr (2, cu_ (nI (k + 1)) qo qu qg qr qp)), (qo, .inl (cJ, gcap_ k cap, .inr (.inl (vp_updL ov k o)))), (qu, .inl (cJ, gcap_ k cap, .inr (.inl (vp_updL un k d)))), (qg, .inl (cI, gcap_ k cap, .inl (upd sg k sn))), (qr, .inl (cI, gcap_ k cap, .inl (upd od k (nI k)))), (qp, .inl (cI, gcap_ k cap, .inl sp))]) [0, 1, 2, 3, 4, 5] (by decide) rfl
    exact W.vret hx hb hr (fun t ht hW => ⟨⟨(vp_updL ov k o, vp_updL un k d, upd sg k sn, upd od k (nI k), sp), rfl, ⟨fun i hi => ⟨pk_uLn (by omega), pk_uLn (by omega), pk_un (by omega), pk_un (by omega)⟩, pk_uLs, pk_uLs, pk_us, pk_us⟩, qo, qu, qg, qr, qp, by rw [ht]; exact hP9, va_K.moved hW.alike hK, hD9⟩, hS.F ht⟩) hS.2.2 dX2_add_146
  · have q1 : k = cap := (nI_eq (by omega) (by omega)).mp c1
    obtain ⟨m1, m2⟩ := hm q1
    refine lv_aload_n hx hb dX2_add_12 rfl (lv_at hl 0 rfl) ?_
    refine lv_aload_n hx hb dX2_add_13 rfl (lv_at hl 0 rfl) ?_
    refine va_get (D := g) (ci := 2) (v := .ref qo) (C := RX2) (T := TX2) (N := 6) hx hb hts hiX2 hown hK hP 0 rfl rfl 1 (by decide) (hts (.fieldLink RX2 15 "ShapeRelator$Cuts" "overs" "[J") (List.mem_of_getElem? (i := 3) rfl)) (fun _ h9 => h9) rfl dX2_add_14 ?_
    refine lv_iconst (v := 2) hx hb dX2_add_17 (by decide) ?_
    refine lv_aload_n hx hb dX2_add_18 rfl (lv_at hl 0 rfl) ?_
    refine va_get (D := g) (ci := 2) (v := .int (nI k)) (C := RX2) (T := TX2) (N := 6) hx hb hts hiX2 hown hK hP 0 rfl rfl 0 (by decide) (hts (.fieldLink RX2 9 "ShapeRelator$Cuts" "size" "I") (List.mem_of_getElem? (i := 1) rfl)) (fun _ h9 => h9) rfl dX2_add_19 ?_
    refine lv_imul hx hb dX2_add_22 ?_
    refine tpi_ (y := (nI (2 * k))) (by rw [← pk_mul]; rfl) ?_
    have hPc := hP.sub (ws' := [(qo, .inl (cJ, cap, .inr (.inl ov)))]) [1] rfl
    have hDc := hD.sub (ws' := [(qo, .inl (cJ, cap, .inr (.inl ov)))]) [1] (by decide) rfl
    have hFc := va_free (wc := [(qo, .inl (cJ, cap, .inr (.inl ov)))]) hD hS hA [1] rfl
    refine va_callr (va_runS (As := [.ref qo, .int (nI (2 * k))]) (rest := [.ref ca]) ⟨hx, hb, hml, hown, hts⟩ (kJ7_copyOf_c38d5 l g cI cJ cZ s.heap.size qo cap ov (2 * k) (show cap < 2 * k by omega) (show 2 * k < 1000000 by omega)) (va_cwS 2 hts gX2_add_J7_copyOf_c38d5 rfl rfl rfl (by decide +kernel) ⟨Nat.le_of_ble_eq_true rfl, Nat.le_of_ble_eq_true rfl⟩) (ps_ hK hPc hDc) rfl rfl hl.1 rfl (lv_room (Nat.le_of_ble_eq_true rfl)) dX2_add_23 ⟨by show 0 + 1 ≤ mc; omega, by show 0 + (2 * k) ≤ ms; omega⟩) hS (fun q _ h => hFc q h) hFc (fun u qa t H1 locs ht hvm hw hB hz1 hk1 hS => ?_)
    obtain ⟨hP1, hK1, hD1⟩ := hB
    rw [ht] at hP1
    obtain ⟨hP, hD⟩ := va_join (wr := [(ca, .inr (2, cu_ (nI k) qo qu qg qr qp)), (qu, .inl (cJ, cap, .inr (.inl un))), (qg, .inl (cI, cap, .inl sg)), (qr, .inl (cI, cap, .inl od)), (qp, .inl (cI, cap, .inl sp))]) (w1 := [(qo, .inl (cJ, cap, .inr (.inl ov))), (qa, .inl (cJ, (2 * k), .inr (.inl (va_cpy ov (fun _ => 0) 0 0 cap))))]) hP hD [1] [0, 2, 3, 4, 5] rfl rfl (by decide) (by decide) hk1 hFc hP1 hD1
    clear hPc hDc hFc hP1 hD1 hK1 hk1 hz1 hvm ht
    generalize H1 = H at hP hS ⊢
    have hP : va_P g vwCl [(ca, .inr (2, cu_ (nI k) qo qu qg qr qp)), (qu, .inl (cJ, cap, .inr (.inl un))), (qg, .inl (cI, cap, .inl sg)), (qr, .inl (cI, cap, .inl od)), (qp, .inl (cI, cap, .inl sp)), (qo, .inl (cJ, cap, .inr (.inl ov))), (qa, .inl (cJ, (2 * k), .inr (.inl (va_cpy ov (fun _ => 0) 0 0 cap))))] H := hP
    have hD : va_D A [(ca, .inr (2, cu_ (nI k) qo qu qg qr qp)), (qu, .inl (cJ, cap, .inr (.inl un))), (qg, .inl (cI, cap, .inl sg)), (qr, .inl (cI, cap, .inl od)), (qp, .inl (cI, cap, .inl sp)), (qo, .inl (cJ, cap, .inr (.inl ov))), (qa, .inl (cJ, (2 * k), .inr (.inl (va_cpy ov (fun _ => 0) 0 0 cap))))] := hD
    refine va_put (D := g) (ci := 2) (v := .ref qa) (ty := .array .long) (C := RX2) (T := TX2) (N := 6) hx hb hts hiX2 tyX2 tyX2_ok nmX2 hown hK hP hD hS 0 rfl rfl 1 (by decide) (hts (.fieldLink RX2 15 "ShapeRelator$Cuts" "overs" "[J") (List.mem_of_getElem? (i := 3) rfl)) (fun _ h9 => h9) rfl (by decide +kernel) rfl rfl (Nat.le_of_ble_eq_true rfl) dX2_add_26 (fun H locs hP hD hS => ?_)
    have hP : va_P g vwCl [(ca, .inr (2, cu_ (nI k) qa qu qg qr qp)), (qu, .inl (cJ, cap, .inr (.inl un))), (qg, .inl (cI, cap, .inl sg)), (qr, .inl (cI, cap, .inl od)), (qp, .inl (cI, cap, .inl sp)), (qo, .inl (cJ, cap, .inr (.inl ov))), (qa, .inl (cJ, (2 * k), .inr (.inl (va_cpy ov (fun _ => 0) 0 0 cap))))] H := hP
    have hD : va_D A [(ca, .inr (2, cu_ (nI k) qa qu qg qr qp)), (qu, .inl (cJ, cap, .inr (.inl un))), (qg, .inl (cI, cap, .inl sg)), (qr, .inl (cI, cap, .inl od)), (qp, .inl (cI, cap, .inl sp)), (qo, .inl (cJ, cap, .inr (.inl ov))), (qa, .inl (cJ, (2 * k), .inr (.inl (va_cpy ov (fun _ => 0) 0 0 cap))))] := hD
    refine lv_aload_n hx hb dX2_add_29 rfl (lv_at hl 0 rfl) ?_
    refine lv_aload_n hx hb dX2_add_30 rfl (lv_at hl 0 rfl) ?_
    refine va_get (D := g) (ci := 2) (v := .ref qu) (C := RX2) (T := TX2) (N := 6) hx hb hts hiX2 hown hK hP 0 rfl rfl 2 (by decide) (hts (.fieldLink RX2 19 "ShapeRelator$Cuts" "unders" "[J") (List.mem_of_getElem? (i := 4) rfl)) (fun _ h9 => h9) rfl dX2_add_31 ?_
    refine lv_iconst (v := 2) hx hb dX2_add_34 (by decide) ?_
    refine lv_aload_n hx hb dX2_add_35 rfl (lv_at hl 0 rfl) ?_
    refine va_get (D := g) (ci := 2) (v := .int (nI k)) (C := RX2) (T := TX2) (N := 6) hx hb hts hiX2 hown hK hP 0 rfl rfl 0 (by decide) (hts (.fieldLink RX2 9 "ShapeRelator$Cuts" "size" "I") (List.mem_of_getElem? (i := 1) rfl)) (fun _ h9 => h9) rfl dX2_add_36 ?_
    refine lv_imul hx hb dX2_add_39 ?_
    refine tpi_ (y := (nI (2 * k))) (by rw [← pk_mul]; rfl) ?_
    have hPc := hP.sub (ws' := [(qu, .inl (cJ, cap, .inr (.inl un)))]) [1] rfl
    have hDc := hD.sub (ws' := [(qu, .inl (cJ, cap, .inr (.inl un)))]) [1] (by decide) rfl
    have hFc := va_free (wc := [(qu, .inl (cJ, cap, .inr (.inl un)))]) hD hS hA [1] rfl
    refine va_callr (va_runS (As := [.ref qu, .int (nI (2 * k))]) (rest := [.ref ca]) ⟨hx, hb, hml, hown, hts⟩ (kJ7_copyOf_c38d5 l g cI cJ cZ H.size qu cap un (2 * k) (show cap < 2 * k by omega) (show 2 * k < 1000000 by omega)) (va_cwS 2 hts gX2_add_J7_copyOf_c38d5 rfl rfl rfl (by decide +kernel) ⟨Nat.le_of_ble_eq_true rfl, Nat.le_of_ble_eq_true rfl⟩) (ps_ hK hPc hDc) rfl rfl hl.1 rfl (lv_room (Nat.le_of_ble_eq_true rfl)) dX2_add_40 ⟨by show 0 + 1 + 1 ≤ mc; omega, by show 0 + (2 * k) + (2 * k) ≤ ms; omega⟩) hS (fun q _ h => hFc q h) hFc (fun u qb t H1 locs ht hvm hw hB hz1 hk1 hS => ?_)
    obtain ⟨hP1, hK1, hD1⟩ := hB
    rw [ht] at hP1
    obtain ⟨hP, hD⟩ := va_join (wr := [(ca, .inr (2, cu_ (nI k) qa qu qg qr qp)), (qg, .inl (cI, cap, .inl sg)), (qr, .inl (cI, cap, .inl od)), (qp, .inl (cI, cap, .inl sp)), (qo, .inl (cJ, cap, .inr (.inl ov))), (qa, .inl (cJ, (2 * k), .inr (.inl (va_cpy ov (fun _ => 0) 0 0 cap))))]) (w1 := [(qu, .inl (cJ, cap, .inr (.inl un))), (qb, .inl (cJ, (2 * k), .inr (.inl (va_cpy un (fun _ => 0) 0 0 cap))))]) hP hD [1] [0, 2, 3, 4, 5, 6] rfl rfl (by decide) (by decide) hk1 hFc hP1 hD1
    clear hPc hDc hFc hP1 hD1 hK1 hk1 hz1 hvm ht
    generalize H1 = H at hP hS ⊢
    have hP : va_P g vwCl [(ca, .inr (2, cu_ (nI k) qa qu qg qr qp)), (qg, .inl (cI, cap, .inl sg)), (qr, .inl (cI, cap, .inl od)), (qp, .inl (cI, cap, .inl sp)), (qo, .inl (cJ, cap, .inr (.inl ov))), (qa, .inl (cJ, (2 * k), .inr (.inl (va_cpy ov (fun _ => 0) 0 0 cap)))), (qu, .inl (cJ, cap, .inr (.inl un))), (qb, .inl (cJ, (2 * k), .inr (.inl (va_cpy un (fun _ => 0) 0 0 cap))))] H := hP
    have hD : va_D A [(ca, .inr (2, cu_ (nI k) qa qu qg qr qp)), (qg, .inl (cI, cap, .inl sg)), (qr, .inl (cI, cap, .inl od)), (qp, .inl (cI, cap, .inl sp)), (qo, .inl (cJ, cap, .inr (.inl ov))), (qa, .inl (cJ, (2 * k), .inr (.inl (va_cpy ov (fun _ => 0) 0 0 cap)))), (qu, .inl (cJ, cap, .inr (.inl un))), (qb, .inl (cJ, (2 * k), .inr (.inl (va_cpy un (fun _ => 0) 0 0 cap))))] := hD
    refine va_put (D := g) (ci := 2) (v := .ref qb) (ty := .array .long) (C := RX2) (T := TX2) (N := 6) hx hb hts hiX2 tyX2 tyX2_ok nmX2 hown hK hP hD hS 0 rfl rfl 2 (by decide) (hts (.fieldLink RX2 19 "ShapeRelator$Cuts" "unders" "[J") (List.mem_of_getElem? (i := 4) rfl)) (fun _ h9 => h9) rfl (by decide +kernel) rfl rfl (Nat.le_of_ble_eq_true rfl) dX2_add_43 (fun H locs hP hD hS => ?_)
    have hP : va_P g vwCl [(ca, .inr (2, cu_ (nI k) qa qb qg qr qp)), (qg, .inl (cI, cap, .inl sg)), (qr, .inl (cI, cap, .inl od)), (qp, .inl (cI, cap, .inl sp)), (qo, .inl (cJ, cap, .inr (.inl ov))), (qa, .inl (cJ, (2 * k), .inr (.inl (va_cpy ov (fun _ => 0) 0 0 cap)))), (qu, .inl (cJ, cap, .inr (.inl un))), (qb, .inl (cJ, (2 * k), .inr (.inl (va_cpy un (fun _ => 0) 0 0 cap))))] H := hP
    have hD : va_D A [(ca, .inr (2, cu_ (nI k) qa qb qg qr qp)), (qg, .inl (cI, cap, .inl sg)), (qr, .inl (cI, cap, .inl od)), (qp, .inl (cI, cap, .inl sp)), (qo, .inl (cJ, cap, .inr (.inl ov))), (qa, .inl (cJ, (2 * k), .inr (.inl (va_cpy ov (fun _ => 0) 0 0 cap)))), (qu, .inl (cJ, cap, .inr (.inl un))), (qb, .inl (cJ, (2 * k), .inr (.inl (va_cpy un (fun _ => 0) 0 0 cap))))] := hD
    refine lv_aload_n hx hb dX2_add_46 rfl (lv_at hl 0 rfl) ?_
    refine lv_aload_n hx hb dX2_add_47 rfl (lv_at hl 0 rfl) ?_
    refine va_get (D := g) (ci := 2) (v := .ref qg) (C := RX2) (T := TX2) (N := 6) hx hb hts hiX2 hown hK hP 0 rfl rfl 3 (by decide) (hts (.fieldLink RX2 22 "ShapeRelator$Cuts" "signs" "[I") (List.mem_of_getElem? (i := 2) rfl)) (fun _ h9 => h9) rfl dX2_add_48 ?_
    refine lv_iconst (v := 2) hx hb dX2_add_51 (by decide) ?_
    refine lv_aload_n hx hb dX2_add_52 rfl (lv_at hl 0 rfl) ?_
    refine va_get (D := g) (ci := 2) (v := .int (nI k)) (C := RX2) (T := TX2) (N := 6) hx hb hts hiX2 hown hK hP 0 rfl rfl 0 (by decide) (hts (.fieldLink RX2 9 "ShapeRelator$Cuts" "size" "I") (List.mem_of_getElem? (i := 1) rfl)) (fun _ h9 => h9) rfl dX2_add_53 ?_
    refine lv_imul hx hb dX2_add_56 ?_
    refine tpi_ (y := (nI (2 * k))) (by rw [← pk_mul]; rfl) ?_
    have hPc := hP.sub (ws' := [(qg, .inl (cI, cap, .inl sg))]) [1] rfl
    have hDc := hD.sub (ws' := [(qg, .inl (cI, cap, .inl sg))]) [1] (by decide) rfl
    have hFc := va_free (wc := [(qg, .inl (cI, cap, .inl sg))]) hD hS hA [1] rfl
    refine va_callr (va_runS (As := [.ref qg, .int (nI (2 * k))]) (rest := [.ref ca]) ⟨hx, hb, hml, hown, hts⟩ (kJ7_copyOf_59c91 l g cI cJ cZ H.size qg cap sg (2 * k) (show cap < 2 * k by omega) (show 2 * k < 1000000 by omega)) (va_cwS 2 hts gX2_add_J7_copyOf_59c91 rfl rfl rfl (by decide +kernel) ⟨Nat.le_of_ble_eq_true rfl, Nat.le_of_ble_eq_true rfl⟩) (ps_ hK hPc hDc) rfl rfl hl.1 rfl (lv_room (Nat.le_of_ble_eq_true rfl)) dX2_add_57 ⟨by show 0 + 1 + 1 + 1 ≤ mc; omega, by show 0 + (2 * k) + (2 * k) + (2 * k) ≤ ms; omega⟩) hS (fun q _ h => hFc q h) hFc (fun u qc t H1 locs ht hvm hw hB hz1 hk1 hS => ?_)
    obtain ⟨hP1, hK1, hD1⟩ := hB
    rw [ht] at hP1
    obtain ⟨hP, hD⟩ := va_join (wr := [(ca, .inr (2, cu_ (nI k) qa qb qg qr qp)), (qr, .inl (cI, cap, .inl od)), (qp, .inl (cI, cap, .inl sp)), (qo, .inl (cJ, cap, .inr (.inl ov))), (qa, .inl (cJ, (2 * k), .inr (.inl (va_cpy ov (fun _ => 0) 0 0 cap)))), (qu, .inl (cJ, cap, .inr (.inl un))), (qb, .inl (cJ, (2 * k), .inr (.inl (va_cpy un (fun _ => 0) 0 0 cap))))]) (w1 := [(qg, .inl (cI, cap, .inl sg)), (qc, .inl (cI, (2 * k), .inl (va_cpy sg (fun _ => 0) 0 0 cap)))]) hP hD [1] [0, 2, 3, 4, 5, 6, 7] rfl rfl (by decide) (by decide) hk1 hFc hP1 hD1
    clear hPc hDc hFc hP1 hD1 hK1 hk1 hz1 hvm ht
    generalize H1 = H at hP hS ⊢
    have hP : va_P g vwCl [(ca, .inr (2, cu_ (nI k) qa qb qg qr qp)), (qr, .inl (cI, cap, .inl od)), (qp, .inl (cI, cap, .inl sp)), (qo, .inl (cJ, cap, .inr (.inl ov))), (qa, .inl (cJ, (2 * k), .inr (.inl (va_cpy ov (fun _ => 0) 0 0 cap)))), (qu, .inl (cJ, cap, .inr (.inl un))), (qb, .inl (cJ, (2 * k), .inr (.inl (va_cpy un (fun _ => 0) 0 0 cap)))), (qg, .inl (cI, cap, .inl sg)), (qc, .inl (cI, (2 * k), .inl (va_cpy sg (fun _ => 0) 0 0 cap)))] H := hP
    have hD : va_D A [(ca, .inr (2, cu_ (nI k) qa qb qg qr qp)), (qr, .inl (cI, cap, .inl od)), (qp, .inl (cI, cap, .inl sp)), (qo, .inl (cJ, cap, .inr (.inl ov))), (qa, .inl (cJ, (2 * k), .inr (.inl (va_cpy ov (fun _ => 0) 0 0 cap)))), (qu, .inl (cJ, cap, .inr (.inl un))), (qb, .inl (cJ, (2 * k), .inr (.inl (va_cpy un (fun _ => 0) 0 0 cap)))), (qg, .inl (cI, cap, .inl sg)), (qc, .inl (cI, (2 * k), .inl (va_cpy sg (fun _ => 0) 0 0 cap)))] := hD
    refine va_put (D := g) (ci := 2) (v := .ref qc) (ty := .array .int) (C := RX2) (T := TX2) (N := 6) hx hb hts hiX2 tyX2 tyX2_ok nmX2 hown hK hP hD hS 0 rfl rfl 3 (by decide) (hts (.fieldLink RX2 22 "ShapeRelator$Cuts" "signs" "[I") (List.mem_of_getElem? (i := 2) rfl)) (fun _ h9 => h9) rfl (by decide +kernel) rfl rfl (Nat.le_of_ble_eq_true rfl) dX2_add_60 (fun H locs hP hD hS => ?_)
    have hP : va_P g vwCl [(ca, .inr (2, cu_ (nI k) qa qb qc qr qp)), (qr, .inl (cI, cap, .inl od)), (qp, .inl (cI, cap, .inl sp)), (qo, .inl (cJ, cap, .inr (.inl ov))), (qa, .inl (cJ, (2 * k), .inr (.inl (va_cpy ov (fun _ => 0) 0 0 cap)))), (qu, .inl (cJ, cap, .inr (.inl un))), (qb, .inl (cJ, (2 * k), .inr (.inl (va_cpy un (fun _ => 0) 0 0 cap)))), (qg, .inl (cI, cap, .inl sg)), (qc, .inl (cI, (2 * k), .inl (va_cpy sg (fun _ => 0) 0 0 cap)))] H := hP
    have hD : va_D A [(ca, .inr (2, cu_ (nI k) qa qb qc qr qp)), (qr, .inl (cI, cap, .inl od)), (qp, .inl (cI, cap, .inl sp)), (qo, .inl (cJ, cap, .inr (.inl ov))), (qa, .inl (cJ, (2 * k), .inr (.inl (va_cpy ov (fun _ => 0) 0 0 cap)))), (qu, .inl (cJ, cap, .inr (.inl un))), (qb, .inl (cJ, (2 * k), .inr (.inl (va_cpy un (fun _ => 0) 0 0 cap)))), (qg, .inl (cI, cap, .inl sg)), (qc, .inl (cI, (2 * k), .inl (va_cpy sg (fun _ => 0) 0 0 cap)))] := hD
    refine lv_aload_n hx hb dX2_add_63 rfl (lv_at hl 0 rfl) ?_
    refine lv_aload_n hx hb dX2_add_64 rfl (lv_at hl 0 rfl) ?_
    refine va_get (D := g) (ci := 2) (v := .ref qr) (C := RX2) (T := TX2) (N := 6) hx hb hts hiX2 hown hK hP 0 rfl rfl 4 (by decide) (hts (.fieldLink RX2 26 "ShapeRelator$Cuts" "order" "[I") (List.mem_of_getElem? (i := 5) rfl)) (fun _ h9 => h9) rfl dX2_add_65 ?_
    refine lv_iconst (v := 2) hx hb dX2_add_68 (by decide) ?_
    refine lv_aload_n hx hb dX2_add_69 rfl (lv_at hl 0 rfl) ?_
    refine va_get (D := g) (ci := 2) (v := .int (nI k)) (C := RX2) (T := TX2) (N := 6) hx hb hts hiX2 hown hK hP 0 rfl rfl 0 (by decide) (hts (.fieldLink RX2 9 "ShapeRelator$Cuts" "size" "I") (List.mem_of_getElem? (i := 1) rfl)) (fun _ h9 => h9) rfl dX2_add_70 ?_
    refine lv_imul hx hb dX2_add_73 ?_
    refine tpi_ (y := (nI (2 * k))) (by rw [← pk_mul]; rfl) ?_
    have hPc := hP.sub (ws' := [(qr, .inl (cI, cap, .inl od))]) [1] rfl
    have hDc := hD.sub (ws' := [(qr, .inl (cI, cap, .inl od))]) [1] (by decide) rfl
    have hFc := va_free (wc := [(qr, .inl (cI, cap, .inl od))]) hD hS hA [1] rfl
    refine va_callr (va_runS (As := [.ref qr, .int (nI (2 * k))]) (rest := [.ref ca]) ⟨hx, hb, hml, hown, hts⟩ (kJ7_copyOf_59c91 l g cI cJ cZ H.size qr cap od (2 * k) (show cap < 2 * k by omega) (show 2 * k < 1000000 by omega)) (va_cwS 2 hts gX2_add_J7_copyOf_59c91 rfl rfl rfl (by decide +kernel) ⟨Nat.le_of_ble_eq_true rfl, Nat.le_of_ble_eq_true rfl⟩) (ps_ hK hPc hDc) rfl rfl hl.1 rfl (lv_room (Nat.le_of_ble_eq_true rfl)) dX2_add_74 ⟨by show 0 + 1 + 1 + 1 + 1 ≤ mc; omega, by show 0 + (2 * k) + (2 * k) + (2 * k) + (2 * k) ≤ ms; omega⟩) hS (fun q _ h => hFc q h) hFc (fun u qe t H1 locs ht hvm hw hB hz1 hk1 hS => ?_)
    obtain ⟨hP1, hK1, hD1⟩ := hB
    rw [ht] at hP1
    obtain ⟨hP, hD⟩ := va_join (wr := [(ca, .inr (2, cu_ (nI k) qa qb qc qr qp)), (qp, .inl (cI, cap, .inl sp)), (qo, .inl (cJ, cap, .inr (.inl ov))), (qa, .inl (cJ, (2 * k), .inr (.inl (va_cpy ov (fun _ => 0) 0 0 cap)))), (qu, .inl (cJ, cap, .inr (.inl un))), (qb, .inl (cJ, (2 * k), .inr (.inl (va_cpy un (fun _ => 0) 0 0 cap)))), (qg, .inl (cI, cap, .inl sg)), (qc, .inl (cI, (2 * k), .inl (va_cpy sg (fun _ => 0) 0 0 cap)))]) (w1 := [(qr, .inl (cI, cap, .inl od)), (qe, .inl (cI, (2 * k), .inl (va_cpy od (fun _ => 0) 0 0 cap)))]) hP hD [1] [0, 2, 3, 4, 5, 6, 7, 8] rfl rfl (by decide) (by decide) hk1 hFc hP1 hD1
    clear hPc hDc hFc hP1 hD1 hK1 hk1 hz1 hvm ht
    generalize H1 = H at hP hS ⊢
    have hP : va_P g vwCl [(ca, .inr (2, cu_ (nI k) qa qb qc qr qp)), (qp, .inl (cI, cap, .inl sp)), (qo, .inl (cJ, cap, .inr (.inl ov))), (qa, .inl (cJ, (2 * k), .inr (.inl (va_cpy ov (fun _ => 0) 0 0 cap)))), (qu, .inl (cJ, cap, .inr (.inl un))), (qb, .inl (cJ, (2 * k), .inr (.inl (va_cpy un (fun _ => 0) 0 0 cap)))), (qg, .inl (cI, cap, .inl sg)), (qc, .inl (cI, (2 * k), .inl (va_cpy sg (fun _ => 0) 0 0 cap))), (qr, .inl (cI, cap, .inl od)), (qe, .inl (cI, (2 * k), .inl (va_cpy od (fun _ => 0) 0 0 cap)))] H := hP
    have hD : va_D A [(ca, .inr (2, cu_ (nI k) qa qb qc qr qp)), (qp, .inl (cI, cap, .inl sp)), (qo, .inl (cJ, cap, .inr (.inl ov))), (qa, .inl (cJ, (2 * k), .inr (.inl (va_cpy ov (fun _ => 0) 0 0 cap)))), (qu, .inl (cJ, cap, .inr (.inl un))), (qb, .inl (cJ, (2 * k), .inr (.inl (va_cpy un (fun _ => 0) 0 0 cap)))), (qg, .inl (cI, cap, .inl sg)), (qc, .inl (cI, (2 * k), .inl (va_cpy sg (fun _ => 0) 0 0 cap))), (qr, .inl (cI, cap, .inl od)), (qe, .inl (cI, (2 * k), .inl (va_cpy od (fun _ => 0) 0 0 cap)))] := hD
    refine va_put (D := g) (ci := 2) (v := .ref qe) (ty := .array .int) (C := RX2) (T := TX2) (N := 6) hx hb hts hiX2 tyX2 tyX2_ok nmX2 hown hK hP hD hS 0 rfl rfl 4 (by decide) (hts (.fieldLink RX2 26 "ShapeRelator$Cuts" "order" "[I") (List.mem_of_getElem? (i := 5) rfl)) (fun _ h9 => h9) rfl (by decide +kernel) rfl rfl (Nat.le_of_ble_eq_true rfl) dX2_add_77 (fun H locs hP hD hS => ?_)
    have hP : va_P g vwCl [(ca, .inr (2, cu_ (nI k) qa qb qc qe qp)), (qp, .inl (cI, cap, .inl sp)), (qo, .inl (cJ, cap, .inr (.inl ov))), (qa, .inl (cJ, (2 * k), .inr (.inl (va_cpy ov (fun _ => 0) 0 0 cap)))), (qu, .inl (cJ, cap, .inr (.inl un))), (qb, .inl (cJ, (2 * k), .inr (.inl (va_cpy un (fun _ => 0) 0 0 cap)))), (qg, .inl (cI, cap, .inl sg)), (qc, .inl (cI, (2 * k), .inl (va_cpy sg (fun _ => 0) 0 0 cap))), (qr, .inl (cI, cap, .inl od)), (qe, .inl (cI, (2 * k), .inl (va_cpy od (fun _ => 0) 0 0 cap)))] H := hP
    have hD : va_D A [(ca, .inr (2, cu_ (nI k) qa qb qc qe qp)), (qp, .inl (cI, cap, .inl sp)), (qo, .inl (cJ, cap, .inr (.inl ov))), (qa, .inl (cJ, (2 * k), .inr (.inl (va_cpy ov (fun _ => 0) 0 0 cap)))), (qu, .inl (cJ, cap, .inr (.inl un))), (qb, .inl (cJ, (2 * k), .inr (.inl (va_cpy un (fun _ => 0) 0 0 cap)))), (qg, .inl (cI, cap, .inl sg)), (qc, .inl (cI, (2 * k), .inl (va_cpy sg (fun _ => 0) 0 0 cap))), (qr, .inl (cI, cap, .inl od)), (qe, .inl (cI, (2 * k), .inl (va_cpy od (fun _ => 0) 0 0 cap)))] := hD
    refine lv_aload_n hx hb dX2_add_80 rfl (lv_at hl 0 rfl) ?_
    refine lv_iconst (v := 2) hx hb dX2_add_81 (by decide) ?_
    refine lv_aload_n hx hb dX2_add_82 rfl (lv_at hl 0 rfl) ?_
    refine va_get (D := g) (ci := 2) (v := .int (nI k)) (C := RX2) (T := TX2) (N := 6) hx hb hts hiX2 hown hK hP 0 rfl rfl 0 (by decide) (hts (.fieldLink RX2 9 "ShapeRelator$Cuts" "size" "I") (List.mem_of_getElem? (i := 1) rfl)) (fun _ h9 => h9) rfl dX2_add_83 ?_
    refine lv_imul hx hb dX2_add_86 ?_
    refine tpi_ (y := (nI (2 * k))) (by rw [← pk_mul]; rfl) ?_
    refine nwa_ (D := g) (atype := .int) (N' := (2 * k)) (a0 := (2 * k, .inl (fun _ => 0))) hx hb (hts (.arrayClass .int) (List.mem_of_getElem? (i := 6) rfl)) rfl hK 0 rfl (fun _ h => h) hP hD hS hA (fun _ => rfl) (nI_pos (by omega)) (nI_clamp (by omega)) (by show 2 * k * 4 ≤ 536870912; omega) (by show 0 + 1 + 1 + 1 + 1 + 1 ≤ mc; omega) (by show 0 + (2 * k) + (2 * k) + (2 * k) + (2 * k) + 2 * k ≤ ms; omega) dX2_add_87 (fun q_1 H hP hD hS => ?_)
    have hP : va_P g vwCl [(ca, .inr (2, cu_ (nI k) qa qb qc qe qp)), (qp, .inl (cI, cap, .inl sp)), (qo, .inl (cJ, cap, .inr (.inl ov))), (qa, .inl (cJ, (2 * k), .inr (.inl (va_cpy ov (fun _ => 0) 0 0 cap)))), (qu, .inl (cJ, cap, .inr (.inl un))), (qb, .inl (cJ, (2 * k), .inr (.inl (va_cpy un (fun _ => 0) 0 0 cap)))), (qg, .inl (cI, cap, .inl sg)), (qc, .inl (cI, (2 * k), .inl (va_cpy sg (fun _ => 0) 0 0 cap))), (qr, .inl (cI, cap, .inl od)), (qe, .inl (cI, (2 * k), .inl (va_cpy od (fun _ => 0) 0 0 cap))), (q_1, .inl (cI, 2 * k, .inl (fun _ => 0)))] H := hP
    have hD : va_D A [(ca, .inr (2, cu_ (nI k) qa qb qc qe qp)), (qp, .inl (cI, cap, .inl sp)), (qo, .inl (cJ, cap, .inr (.inl ov))), (qa, .inl (cJ, (2 * k), .inr (.inl (va_cpy ov (fun _ => 0) 0 0 cap)))), (qu, .inl (cJ, cap, .inr (.inl un))), (qb, .inl (cJ, (2 * k), .inr (.inl (va_cpy un (fun _ => 0) 0 0 cap)))), (qg, .inl (cI, cap, .inl sg)), (qc, .inl (cI, (2 * k), .inl (va_cpy sg (fun _ => 0) 0 0 cap))), (qr, .inl (cI, cap, .inl od)), (qe, .inl (cI, (2 * k), .inl (va_cpy od (fun _ => 0) 0 0 cap))), (q_1, .inl (cI, 2 * k, .inl (fun _ => 0)))] := hD
    refine va_put (D := g) (ci := 2) (v := .ref q_1) (ty := .array .int) (C := RX2) (T := TX2) (N := 6) hx hb hts hiX2 tyX2 tyX2_ok nmX2 hown hK hP hD hS 0 rfl rfl 5 (by decide) (hts (.fieldLink RX2 29 "ShapeRelator$Cuts" "spare" "[I") (List.mem_of_getElem? (i := 7) rfl)) (fun _ h9 => h9) rfl (by decide +kernel) rfl rfl (Nat.le_of_ble_eq_true rfl) dX2_add_89 (fun H locs hP hD hS => ?_)
    have hP : va_P g vwCl [(ca, .inr (2, cu_ (nI k) qa qb qc qe q_1)), (qp, .inl (cI, cap, .inl sp)), (qo, .inl (cJ, cap, .inr (.inl ov))), (qa, .inl (cJ, (2 * k), .inr (.inl (va_cpy ov (fun _ => 0) 0 0 cap)))), (qu, .inl (cJ, cap, .inr (.inl un))), (qb, .inl (cJ, (2 * k), .inr (.inl (va_cpy un (fun _ => 0) 0 0 cap)))), (qg, .inl (cI, cap, .inl sg)), (qc, .inl (cI, (2 * k), .inl (va_cpy sg (fun _ => 0) 0 0 cap))), (qr, .inl (cI, cap, .inl od)), (qe, .inl (cI, (2 * k), .inl (va_cpy od (fun _ => 0) 0 0 cap))), (q_1, .inl (cI, 2 * k, .inl (fun _ => 0)))] H := hP
    have hD : va_D A [(ca, .inr (2, cu_ (nI k) qa qb qc qe q_1)), (qp, .inl (cI, cap, .inl sp)), (qo, .inl (cJ, cap, .inr (.inl ov))), (qa, .inl (cJ, (2 * k), .inr (.inl (va_cpy ov (fun _ => 0) 0 0 cap)))), (qu, .inl (cJ, cap, .inr (.inl un))), (qb, .inl (cJ, (2 * k), .inr (.inl (va_cpy un (fun _ => 0) 0 0 cap)))), (qg, .inl (cI, cap, .inl sg)), (qc, .inl (cI, (2 * k), .inl (va_cpy sg (fun _ => 0) 0 0 cap))), (qr, .inl (cI, cap, .inl od)), (qe, .inl (cI, (2 * k), .inl (va_cpy od (fun _ => 0) 0 0 cap))), (q_1, .inl (cI, 2 * k, .inl (fun _ => 0)))] := hD
    refine lv_aload_n hx hb dX2_add_92 rfl (lv_at hl 0 rfl) ?_
    refine va_get (D := g) (ci := 2) (v := .ref qa) (C := RX2) (T := TX2) (N := 6) hx hb hts hiX2 hown hK hP 0 rfl rfl 1 (by decide) (hts (.fieldLink RX2 15 "ShapeRelator$Cuts" "overs" "[J") (List.mem_of_getElem? (i := 3) rfl)) (fun _ h9 => h9) rfl dX2_add_93 ?_
    refine lv_aload_n hx hb dX2_add_96 rfl (lv_at hl 0 rfl) ?_
    refine va_get (D := g) (ci := 2) (v := .int (nI k)) (C := RX2) (T := TX2) (N := 6) hx hb hts hiX2 hown hK hP 0 rfl rfl 0 (by decide) (hts (.fieldLink RX2 9 "ShapeRelator$Cuts" "size" "I") (List.mem_of_getElem? (i := 1) rfl)) (fun _ h9 => h9) rfl dX2_add_97 ?_
    refine lv_lload_n hx hb dX2_add_100 rfl (lv_at hl 1 rfl) ?_
    refine va_last (D := g) hx hb hK hP hD hS 3 1 rfl rfl (vp_in_nI (show k < 2 * k by omega) (by omega)) dX2_add_101 (fun H locs hP hD hS => ?_)
    rw [nI_clamp (show k < 2 ^ 31 by omega)] at hP hD
    have hP : va_P g vwCl [(ca, .inr (2, cu_ (nI k) qa qb qc qe q_1)), (qp, .inl (cI, cap, .inl sp)), (qo, .inl (cJ, cap, .inr (.inl ov))), (qa, .inl (cJ, (2 * k), .inr (.inl (vp_updL (va_cpy ov (fun _ => 0) 0 0 cap) k o)))), (qu, .inl (cJ, cap, .inr (.inl un))), (qb, .inl (cJ, (2 * k), .inr (.inl (va_cpy un (fun _ => 0) 0 0 cap)))), (qg, .inl (cI, cap, .inl sg)), (qc, .inl (cI, (2 * k), .inl (va_cpy sg (fun _ => 0) 0 0 cap))), (qr, .inl (cI, cap, .inl od)), (qe, .inl (cI, (2 * k), .inl (va_cpy od (fun _ => 0) 0 0 cap))), (q_1, .inl (cI, 2 * k, .inl (fun _ => 0)))] H := hP
    have hD : va_D A [(ca, .inr (2, cu_ (nI k) qa qb qc qe q_1)), (qp, .inl (cI, cap, .inl sp)), (qo, .inl (cJ, cap, .inr (.inl ov))), (qa, .inl (cJ, (2 * k), .inr (.inl (vp_updL (va_cpy ov (fun _ => 0) 0 0 cap) k o)))), (qu, .inl (cJ, cap, .inr (.inl un))), (qb, .inl (cJ, (2 * k), .inr (.inl (va_cpy un (fun _ => 0) 0 0 cap)))), (qg, .inl (cI, cap, .inl sg)), (qc, .inl (cI, (2 * k), .inl (va_cpy sg (fun _ => 0) 0 0 cap))), (qr, .inl (cI, cap, .inl od)), (qe, .inl (cI, (2 * k), .inl (va_cpy od (fun _ => 0) 0 0 cap))), (q_1, .inl (cI, 2 * k, .inl (fun _ => 0)))] := hD
    refine lv_aload_n hx hb dX2_add_102 rfl (lv_at hl 0 rfl) ?_
    refine va_get (D := g) (ci := 2) (v := .ref qb) (C := RX2) (T := TX2) (N := 6) hx hb hts hiX2 hown hK hP 0 rfl rfl 2 (by decide) (hts (.fieldLink RX2 19 "ShapeRelator$Cuts" "unders" "[J") (List.mem_of_getElem? (i := 4) rfl)) (fun _ h9 => h9) rfl dX2_add_103 ?_
    refine lv_aload_n hx hb dX2_add_106 rfl (lv_at hl 0 rfl) ?_
    refine va_get (D := g) (ci := 2) (v := .int (nI k)) (C := RX2) (T := TX2) (N := 6) hx hb hts hiX2 hown hK hP 0 rfl rfl 0 (by decide) (hts (.fieldLink RX2 9 "ShapeRelator$Cuts" "size" "I") (List.mem_of_getElem? (i := 1) rfl)) (fun _ h9 => h9) rfl dX2_add_107 ?_
    refine lv_lload_n hx hb dX2_add_110 rfl (lv_at hl 2 rfl) ?_
    refine va_last (D := g) hx hb hK hP hD hS 5 1 rfl rfl (vp_in_nI (show k < 2 * k by omega) (by omega)) dX2_add_111 (fun H locs hP hD hS => ?_)
    rw [nI_clamp (show k < 2 ^ 31 by omega)] at hP hD
    have hP : va_P g vwCl [(ca, .inr (2, cu_ (nI k) qa qb qc qe q_1)), (qp, .inl (cI, cap, .inl sp)), (qo, .inl (cJ, cap, .inr (.inl ov))), (qa, .inl (cJ, (2 * k), .inr (.inl (vp_updL (va_cpy ov (fun _ => 0) 0 0 cap) k o)))), (qu, .inl (cJ, cap, .inr (.inl un))), (qb, .inl (cJ, (2 * k), .inr (.inl (vp_updL (va_cpy un (fun _ => 0) 0 0 cap) k d)))), (qg, .inl (cI, cap, .inl sg)), (qc, .inl (cI, (2 * k), .inl (va_cpy sg (fun _ => 0) 0 0 cap))), (qr, .inl (cI, cap, .inl od)), (qe, .inl (cI, (2 * k), .inl (va_cpy od (fun _ => 0) 0 0 cap))), (q_1, .inl (cI, 2 * k, .inl (fun _ => 0)))] H := hP
    have hD : va_D A [(ca, .inr (2, cu_ (nI k) qa qb qc qe q_1)), (qp, .inl (cI, cap, .inl sp)), (qo, .inl (cJ, cap, .inr (.inl ov))), (qa, .inl (cJ, (2 * k), .inr (.inl (vp_updL (va_cpy ov (fun _ => 0) 0 0 cap) k o)))), (qu, .inl (cJ, cap, .inr (.inl un))), (qb, .inl (cJ, (2 * k), .inr (.inl (vp_updL (va_cpy un (fun _ => 0) 0 0 cap) k d)))), (qg, .inl (cI, cap, .inl sg)), (qc, .inl (cI, (2 * k), .inl (va_cpy sg (fun _ => 0) 0 0 cap))), (qr, .inl (cI, cap, .inl od)), (qe, .inl (cI, (2 * k), .inl (va_cpy od (fun _ => 0) 0 0 cap))), (q_1, .inl (cI, 2 * k, .inl (fun _ => 0)))] := hD
    refine lv_aload_n hx hb dX2_add_112 rfl (lv_at hl 0 rfl) ?_
    refine va_get (D := g) (ci := 2) (v := .ref qc) (C := RX2) (T := TX2) (N := 6) hx hb hts hiX2 hown hK hP 0 rfl rfl 3 (by decide) (hts (.fieldLink RX2 22 "ShapeRelator$Cuts" "signs" "[I") (List.mem_of_getElem? (i := 2) rfl)) (fun _ h9 => h9) rfl dX2_add_113 ?_
    refine lv_aload_n hx hb dX2_add_116 rfl (lv_at hl 0 rfl) ?_
    refine va_get (D := g) (ci := 2) (v := .int (nI k)) (C := RX2) (T := TX2) (N := 6) hx hb hts hiX2 hown hK hP 0 rfl rfl 0 (by decide) (hts (.fieldLink RX2 9 "ShapeRelator$Cuts" "size" "I") (List.mem_of_getElem? (i := 1) rfl)) (fun _ h9 => h9) rfl dX2_add_117 ?_
    refine lv_iload hx hb dX2_add_120 (lv_at hl 3 rfl) ?_
    refine va_iast (D := g) hx hb hK hP hD hS 7 0 rfl rfl (vp_in_nI (show k < 2 * k by omega) (by omega)) dX2_add_122 (fun H locs hP hD hS => ?_)
    rw [nI_clamp (show k < 2 ^ 31 by omega)] at hP hD
    have hP : va_P g vwCl [(ca, .inr (2, cu_ (nI k) qa qb qc qe q_1)), (qp, .inl (cI, cap, .inl sp)), (qo, .inl (cJ, cap, .inr (.inl ov))), (qa, .inl (cJ, (2 * k), .inr (.inl (vp_updL (va_cpy ov (fun _ => 0) 0 0 cap) k o)))), (qu, .inl (cJ, cap, .inr (.inl un))), (qb, .inl (cJ, (2 * k), .inr (.inl (vp_updL (va_cpy un (fun _ => 0) 0 0 cap) k d)))), (qg, .inl (cI, cap, .inl sg)), (qc, .inl (cI, (2 * k), .inl (upd (va_cpy sg (fun _ => 0) 0 0 cap) k sn))), (qr, .inl (cI, cap, .inl od)), (qe, .inl (cI, (2 * k), .inl (va_cpy od (fun _ => 0) 0 0 cap))), (q_1, .inl (cI, 2 * k, .inl (fun _ => 0)))] H := hP
    have hD : va_D A [(ca, .inr (2, cu_ (nI k) qa qb qc qe q_1)), (qp, .inl (cI, cap, .inl sp)), (qo, .inl (cJ, cap, .inr (.inl ov))), (qa, .inl (cJ, (2 * k), .inr (.inl (vp_updL (va_cpy ov (fun _ => 0) 0 0 cap) k o)))), (qu, .inl (cJ, cap, .inr (.inl un))), (qb, .inl (cJ, (2 * k), .inr (.inl (vp_updL (va_cpy un (fun _ => 0) 0 0 cap) k d)))), (qg, .inl (cI, cap, .inl sg)), (qc, .inl (cI, (2 * k), .inl (upd (va_cpy sg (fun _ => 0) 0 0 cap) k sn))), (qr, .inl (cI, cap, .inl od)), (qe, .inl (cI, (2 * k), .inl (va_cpy od (fun _ => 0) 0 0 cap))), (q_1, .inl (cI, 2 * k, .inl (fun _ => 0)))] := hD
    refine lv_aload_n hx hb dX2_add_123 rfl (lv_at hl 0 rfl) ?_
    refine va_get (D := g) (ci := 2) (v := .ref qe) (C := RX2) (T := TX2) (N := 6) hx hb hts hiX2 hown hK hP 0 rfl rfl 4 (by decide) (hts (.fieldLink RX2 26 "ShapeRelator$Cuts" "order" "[I") (List.mem_of_getElem? (i := 5) rfl)) (fun _ h9 => h9) rfl dX2_add_124 ?_
    refine lv_aload_n hx hb dX2_add_127 rfl (lv_at hl 0 rfl) ?_
    refine va_get (D := g) (ci := 2) (v := .int (nI k)) (C := RX2) (T := TX2) (N := 6) hx hb hts hiX2 hown hK hP 0 rfl rfl 0 (by decide) (hts (.fieldLink RX2 9 "ShapeRelator$Cuts" "size" "I") (List.mem_of_getElem? (i := 1) rfl)) (fun _ h9 => h9) rfl dX2_add_128 ?_
    refine lv_aload_n hx hb dX2_add_131 rfl (lv_at hl 0 rfl) ?_
    refine va_get (D := g) (ci := 2) (v := .int (nI k)) (C := RX2) (T := TX2) (N := 6) hx hb hts hiX2 hown hK hP 0 rfl rfl 0 (by decide) (hts (.fieldLink RX2 9 "ShapeRelator$Cuts" "size" "I") (List.mem_of_getElem? (i := 1) rfl)) (fun _ h9 => h9) rfl dX2_add_132 ?_
    refine va_iast (D := g) hx hb hK hP hD hS 9 0 rfl rfl (vp_in_nI (show k < 2 * k by omega) (by omega)) dX2_add_135 (fun H locs hP hD hS => ?_)
    rw [nI_clamp (show k < 2 ^ 31 by omega)] at hP hD
    have hP : va_P g vwCl [(ca, .inr (2, cu_ (nI k) qa qb qc qe q_1)), (qp, .inl (cI, cap, .inl sp)), (qo, .inl (cJ, cap, .inr (.inl ov))), (qa, .inl (cJ, (2 * k), .inr (.inl (vp_updL (va_cpy ov (fun _ => 0) 0 0 cap) k o)))), (qu, .inl (cJ, cap, .inr (.inl un))), (qb, .inl (cJ, (2 * k), .inr (.inl (vp_updL (va_cpy un (fun _ => 0) 0 0 cap) k d)))), (qg, .inl (cI, cap, .inl sg)), (qc, .inl (cI, (2 * k), .inl (upd (va_cpy sg (fun _ => 0) 0 0 cap) k sn))), (qr, .inl (cI, cap, .inl od)), (qe, .inl (cI, (2 * k), .inl (upd (va_cpy od (fun _ => 0) 0 0 cap) k (nI k)))), (q_1, .inl (cI, 2 * k, .inl (fun _ => 0)))] H := hP
    have hD : va_D A [(ca, .inr (2, cu_ (nI k) qa qb qc qe q_1)), (qp, .inl (cI, cap, .inl sp)), (qo, .inl (cJ, cap, .inr (.inl ov))), (qa, .inl (cJ, (2 * k), .inr (.inl (vp_updL (va_cpy ov (fun _ => 0) 0 0 cap) k o)))), (qu, .inl (cJ, cap, .inr (.inl un))), (qb, .inl (cJ, (2 * k), .inr (.inl (vp_updL (va_cpy un (fun _ => 0) 0 0 cap) k d)))), (qg, .inl (cI, cap, .inl sg)), (qc, .inl (cI, (2 * k), .inl (upd (va_cpy sg (fun _ => 0) 0 0 cap) k sn))), (qr, .inl (cI, cap, .inl od)), (qe, .inl (cI, (2 * k), .inl (upd (va_cpy od (fun _ => 0) 0 0 cap) k (nI k)))), (q_1, .inl (cI, 2 * k, .inl (fun _ => 0)))] := hD
    refine lv_aload_n hx hb dX2_add_136 rfl (lv_at hl 0 rfl) ?_
    refine lv_dup hx hb dX2_add_137 rfl ?_
    refine va_get (D := g) (ci := 2) (v := .int (nI k)) (C := RX2) (T := TX2) (N := 6) hx hb hts hiX2 hown hK hP 0 rfl rfl 0 (by decide) (hts (.fieldLink RX2 9 "ShapeRelator$Cuts" "size" "I") (List.mem_of_getElem? (i := 1) rfl)) (fun _ h9 => h9) rfl dX2_add_138 ?_
    refine lv_iconst (v := 1) hx hb dX2_add_141 (by decide) ?_
    refine lv_iadd hx hb dX2_add_142 ?_
    refine tpi_ (y := (nI (k + 1))) ((nI_1 k).symm) ?_
    refine va_put (D := g) (ci := 2) (v := .int (nI (k + 1))) (ty := .int) (C := RX2) (T := TX2) (N := 6) hx hb hts hiX2 tyX2 tyX2_ok nmX2 hown hK hP hD hS 0 rfl rfl 0 (by decide) (hts (.fieldLink RX2 9 "ShapeRelator$Cuts" "size" "I") (List.mem_of_getElem? (i := 1) rfl)) (fun _ h9 => h9) rfl (by decide +kernel) rfl rfl (Nat.le_of_ble_eq_true rfl) dX2_add_143 (fun H locs hP hD hS => ?_)
    have hP : va_P g vwCl [(ca, .inr (2, cu_ (nI (k + 1)) qa qb qc qe q_1)), (qp, .inl (cI, cap, .inl sp)), (qo, .inl (cJ, cap, .inr (.inl ov))), (qa, .inl (cJ, (2 * k), .inr (.inl (vp_updL (va_cpy ov (fun _ => 0) 0 0 cap) k o)))), (qu, .inl (cJ, cap, .inr (.inl un))), (qb, .inl (cJ, (2 * k), .inr (.inl (vp_updL (va_cpy un (fun _ => 0) 0 0 cap) k d)))), (qg, .inl (cI, cap, .inl sg)), (qc, .inl (cI, (2 * k), .inl (upd (va_cpy sg (fun _ => 0) 0 0 cap) k sn))), (qr, .inl (cI, cap, .inl od)), (qe, .inl (cI, (2 * k), .inl (upd (va_cpy od (fun _ => 0) 0 0 cap) k (nI k)))), (q_1, .inl (cI, 2 * k, .inl (fun _ => 0)))] H := hP
    have hD : va_D A [(ca, .inr (2, cu_ (nI (k + 1)) qa qb qc qe q_1)), (qp, .inl (cI, cap, .inl sp)), (qo, .inl (cJ, cap, .inr (.inl ov))), (qa, .inl (cJ, (2 * k), .inr (.inl (vp_updL (va_cpy ov (fun _ => 0) 0 0 cap) k o)))), (qu, .inl (cJ, cap, .inr (.inl un))), (qb, .inl (cJ, (2 * k), .inr (.inl (vp_updL (va_cpy un (fun _ => 0) 0 0 cap) k d)))), (qg, .inl (cI, cap, .inl sg)), (qc, .inl (cI, (2 * k), .inl (upd (va_cpy sg (fun _ => 0) 0 0 cap) k sn))), (qr, .inl (cI, cap, .inl od)), (qe, .inl (cI, (2 * k), .inl (upd (va_cpy od (fun _ => 0) 0 0 cap) k (nI k)))), (q_1, .inl (cI, 2 * k, .inl (fun _ => 0)))] := hD
    have en : 2 * k = gcap_ k cap := by unfold gcap_; rw [if_pos q1]
    rw [en] at hP hD
    have hP : va_P g vwCl [(ca, .inr (2, cu_ (nI (k + 1)) qa qb qc qe q_1)), (qp, .inl (cI, cap, .inl sp)), (qo, .inl (cJ, cap, .inr (.inl ov))), (qa, .inl (cJ, gcap_ k cap, .inr (.inl (vp_updL (va_cpy ov (fun _ => 0) 0 0 cap) k o)))), (qu, .inl (cJ, cap, .inr (.inl un))), (qb, .inl (cJ, gcap_ k cap, .inr (.inl (vp_updL (va_cpy un (fun _ => 0) 0 0 cap) k d)))), (qg, .inl (cI, cap, .inl sg)), (qc, .inl (cI, gcap_ k cap, .inl (upd (va_cpy sg (fun _ => 0) 0 0 cap) k sn))), (qr, .inl (cI, cap, .inl od)), (qe, .inl (cI, gcap_ k cap, .inl (upd (va_cpy od (fun _ => 0) 0 0 cap) k (nI k)))), (q_1, .inl (cI, gcap_ k cap, .inl (fun _ => 0)))] H := hP
    have hD : va_D A [(ca, .inr (2, cu_ (nI (k + 1)) qa qb qc qe q_1)), (qp, .inl (cI, cap, .inl sp)), (qo, .inl (cJ, cap, .inr (.inl ov))), (qa, .inl (cJ, gcap_ k cap, .inr (.inl (vp_updL (va_cpy ov (fun _ => 0) 0 0 cap) k o)))), (qu, .inl (cJ, cap, .inr (.inl un))), (qb, .inl (cJ, gcap_ k cap, .inr (.inl (vp_updL (va_cpy un (fun _ => 0) 0 0 cap) k d)))), (qg, .inl (cI, cap, .inl sg)), (qc, .inl (cI, gcap_ k cap, .inl (upd (va_cpy sg (fun _ => 0) 0 0 cap) k sn))), (qr, .inl (cI, cap, .inl od)), (qe, .inl (cI, gcap_ k cap, .inl (upd (va_cpy od (fun _ => 0) 0 0 cap) k (nI k)))), (q_1, .inl (cI, gcap_ k cap, .inl (fun _ => 0)))] := hD
    refine W.widen (k := mc) (n := ms) (by omega) (by omega) ?_
    have hP9 := hP.sub (ws' := [(ca, .inr (2, cu_ (nI (k + 1)) qa qb qc qe q_1)), (qa, .inl (cJ, gcap_ k cap, .inr (.inl (vp_updL (va_cpy ov (fun _ => 0) 0 0 cap) k o)))), (qb, .inl (cJ, gcap_ k cap, .inr (.inl (vp_updL (va_cpy un (fun _ => 0) 0 0 cap) k d)))), (qc, .inl (cI, gcap_ k cap, .inl (upd (va_cpy sg (fun _ => 0) 0 0 cap) k sn))), (qe, .inl (cI, gcap_ k cap, .inl (upd (va_cpy od (fun _ => 0) 0 0 cap) k (nI k)))), (q_1, .inl (cI, gcap_ k cap, .inl (fun _ => 0)))]) [0, 3, 5, 7, 9, 10] rfl
    have hD9 := hD.sub (ws' := [(ca, .inr (2, cu_ (nI (k + 1)) qa qb qc qe q_1)), (qa, .inl (cJ, gcap_ k cap, .inr (.inl (vp_updL (va_cpy ov (fun _ => 0) 0 0 cap) k o)))), (qb, .inl (cJ, gcap_ k cap, .inr (.inl (vp_updL (va_cpy un (fun _ => 0) 0 0 cap) k d)))), (qc, .inl (cI, gcap_ k cap, .inl (upd (va_cpy sg (fun _ => 0) 0 0 cap) k sn))), (qe, .inl (cI, gcap_ k cap, .inl (upd (va_cpy od (fun _ => 0) 0 0 cap) k (nI k)))), (q_1, .inl (cI, gcap_ k cap, .inl (fun _ => 0)))]) [0, 3, 5, 7, 9, 10] (by decide) rfl
    exact W.vret hx hb hr (fun t ht hW => ⟨⟨(vp_updL (va_cpy ov (fun _ => 0) 0 0 cap) k o, vp_updL (va_cpy un (fun _ => 0) 0 0 cap) k d, upd (va_cpy sg (fun _ => 0) 0 0 cap) k sn, upd (va_cpy od (fun _ => 0) 0 0 cap) k (nI k), fun _ => 0), rfl, ⟨fun i hi => ⟨(pk_uLn (by omega)).trans (cpy_ (by omega)), (pk_uLn (by omega)).trans (cpy_ (by omega)), (pk_un (by omega)).trans (cpy_ (by omega)), (pk_un (by omega)).trans (cpy_ (by omega))⟩, pk_uLs, pk_uLs, pk_us, pk_us⟩, qa, qb, qc, qe, q_1, by rw [ht]; exact hP9, va_K.moved hW.alike hK, hD9⟩, hS.F ht⟩) hS.2.2 dX2_add_146
end
