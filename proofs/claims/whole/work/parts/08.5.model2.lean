section
theorem ikX6_stand_X6 : ∀ w ∈ wsX60, w ∈ wsX6_stand := by decide +kernel
set_option maxHeartbeats 1000000 in
set_option maxRecDepth 100000 in
theorem kX6_stand (l : Launch) (g : va_G) (cI cJ cZ : ClassId) (sz : Nat) (ma : Nat) (th : Int32) (sn : Int32) (x0 : Int64) (y0 : Int64) (dx : Int64) (dy : Int64) (cu : Int32) (zk : Nat) (zp : Nat) (za : Nat) (zb : Nat) (zx : Nat) (zy : Nat) (zf : Nat) (zt : Nat) (zw : Nat) (zm : Nat) (zh : Nat) (zz : Nat) (zo : Nat) (zu : Nat) (a : Int64) (b : Int64) (c0 : Int64) (d : Int64)  : Met l yX6_stand wsX6_stand ({ frames := 0, cells := 0, slots := 0, locals := 0 }) (pc_ g cI cJ cZ [.ref ma, .long a, .long b, .long c0, .long d] [(ma, .inr (6, mo_ th zk zp za zb zx zy sn zf zt zw zm zh x0 y0 dx dy zz cu zo zu))] sz) (va_Qv (fun (_ : Unit) => True) (fun (_ : Unit) t => wd_ g cI cJ cZ (va_A [(ma, .inr (6, mo_ th zk zp za zb zx zy sn zf zt zw zm zh x0 y0 dx dy zz cu zo zu))] sz) [(ma, .inr (6, mo_ th zk zp za zb zx zy sn zf zt zw zm zh a b c0 d zz cu zo zu))] t) (va_A [(ma, .inr (6, mo_ th zk zp za zb zx zy sn zf zt zw zm zh x0 y0 dx dy zz cu zo zu))] sz)) (0) (0) (va_A [(ma, .inr (6, mo_ th zk zp za zb zx zy sn zf zt zw zm zh x0 y0 dx dy zz cu zo zu))] sz) := by
  refine Met.ofW (cc := cX6_stand) (maxL := 9) (ret := none) (by decide) rfl ?_
  intro p e s m args below meth c s₁ B hml hv
  obtain ⟨rfl, hsz, hP, hK, hD0⟩ := hv
  have hx := B.exec
  have hb := B.bytes
  have hr := B.returns
  have hts := atoms_spec (ws := wsX6_stand) B.pre
  have hown : s.vm.findClass RX6 = some m.cls := findClass_of_methodNamed B.named
  have hlocks := B.notSynchronized
  subst hsz
  have hD := hD0.self (sz := s.heap.size)
  generalize hAe : va_A [(ma, .inr (6, mo_ th zk zp za zb zx zy sn zf zt zw zm zh x0 y0 dx dy zz cu zo zu))] s.heap.size = A at hD ⊢
  have hA : ∀ q : Nat, s.heap.size ≤ q → A q := fun q h => by rw [← hAe]; exact Or.inr h
  have hS : va_S A s.heap s.heap [] := va_S.rf
  have hP : va_P g vwCl [(ma, .inr (6, mo_ th zk zp za zb zx zy sn zf zt zw zm zh x0 y0 dx dy zz cu zo zu))] s.heap := hP
  have hl := lv_entry ([.ref ma, .long a, .long b, .long c0, .long d]) (n := 9) (Nat.le_of_ble_eq_true rfl)
  rw [lg_entry_eq]
  generalize (lg_sl ([.ref ma, .long a, .long b, .long c0, .long d]) ++ List.replicate (9 - (lg_sl ([.ref ma, .long a, .long b, .long c0, .long d])).length) Slot.unset).toArray = ls at hl ⊢
  have hl : lv_has ls 9 [(0, .ref ma), (1, .long a), (3, .long b), (5, .long c0), (7, .long d)] := hl
  have hH0 : s.heap = s.heap := rfl
  have hiX6 := ikX6_stand_X6
  refine lv_aload_n hx hb dX6_stand_0 rfl (lv_at hl 0 rfl) ?_
  refine lv_lload_n hx hb dX6_stand_1 rfl (lv_at hl 1 rfl) ?_
  refine va_put (D := g) (ci := 6) (v := .long a) (ty := .long) (C := RX6) (T := TX6) (N := 21) hx hb hts hiX6 tyX6 tyX6_ok nmX6 hown hK hP hD hS 0 rfl rfl 13 (by decide) (hts (.fieldLink RX6 104 "ShapeRelatorModel" "x0" "J") (List.mem_of_getElem? (i := 1) rfl)) (fun _ h9 => h9) rfl (by decide +kernel) rfl rfl (Nat.le_of_ble_eq_true rfl) dX6_stand_2 (fun H locs hP hD hS => ?_)
  have hP : va_P g vwCl [(ma, .inr (6, mo_ th zk zp za zb zx zy sn zf zt zw zm zh a y0 dx dy zz cu zo zu))] H := hP
  have hD : va_D A [(ma, .inr (6, mo_ th zk zp za zb zx zy sn zf zt zw zm zh a y0 dx dy zz cu zo zu))] := hD
  refine lv_aload_n hx hb dX6_stand_5 rfl (lv_at hl 0 rfl) ?_
  refine lv_lload_n hx hb dX6_stand_6 rfl (lv_at hl 2 rfl) ?_
  refine va_put (D := g) (ci := 6) (v := .long b) (ty := .long) (C := RX6) (T := TX6) (N := 21) hx hb hts hiX6 tyX6 tyX6_ok nmX6 hown hK hP hD hS 0 rfl rfl 14 (by decide) (hts (.fieldLink RX6 108 "ShapeRelatorModel" "y0" "J") (List.mem_of_getElem? (i := 2) rfl)) (fun _ h9 => h9) rfl (by decide +kernel) rfl rfl (Nat.le_of_ble_eq_true rfl) dX6_stand_7 (fun H locs hP hD hS => ?_)
  have hP : va_P g vwCl [(ma, .inr (6, mo_ th zk zp za zb zx zy sn zf zt zw zm zh a b dx dy zz cu zo zu))] H := hP
  have hD : va_D A [(ma, .inr (6, mo_ th zk zp za zb zx zy sn zf zt zw zm zh a b dx dy zz cu zo zu))] := hD
  refine lv_aload_n hx hb dX6_stand_10 rfl (lv_at hl 0 rfl) ?_
  refine lv_lload hx hb dX6_stand_11 (lv_at hl 3 rfl) ?_
  refine va_put (D := g) (ci := 6) (v := .long c0) (ty := .long) (C := RX6) (T := TX6) (N := 21) hx hb hts hiX6 tyX6 tyX6_ok nmX6 hown hK hP hD hS 0 rfl rfl 15 (by decide) (hts (.fieldLink RX6 111 "ShapeRelatorModel" "dx" "J") (List.mem_of_getElem? (i := 3) rfl)) (fun _ h9 => h9) rfl (by decide +kernel) rfl rfl (Nat.le_of_ble_eq_true rfl) dX6_stand_13 (fun H locs hP hD hS => ?_)
  have hP : va_P g vwCl [(ma, .inr (6, mo_ th zk zp za zb zx zy sn zf zt zw zm zh a b c0 dy zz cu zo zu))] H := hP
  have hD : va_D A [(ma, .inr (6, mo_ th zk zp za zb zx zy sn zf zt zw zm zh a b c0 dy zz cu zo zu))] := hD
  refine lv_aload_n hx hb dX6_stand_16 rfl (lv_at hl 0 rfl) ?_
  refine lv_lload hx hb dX6_stand_17 (lv_at hl 4 rfl) ?_
  refine va_put (D := g) (ci := 6) (v := .long d) (ty := .long) (C := RX6) (T := TX6) (N := 21) hx hb hts hiX6 tyX6 tyX6_ok nmX6 hown hK hP hD hS 0 rfl rfl 16 (by decide) (hts (.fieldLink RX6 114 "ShapeRelatorModel" "dy" "J") (List.mem_of_getElem? (i := 4) rfl)) (fun _ h9 => h9) rfl (by decide +kernel) rfl rfl (Nat.le_of_ble_eq_true rfl) dX6_stand_19 (fun H locs hP hD hS => ?_)
  have hP : va_P g vwCl [(ma, .inr (6, mo_ th zk zp za zb zx zy sn zf zt zw zm zh a b c0 d zz cu zo zu))] H := hP
  have hD : va_D A [(ma, .inr (6, mo_ th zk zp za zb zx zy sn zf zt zw zm zh a b c0 d zz cu zo zu))] := hD
  have hP9 := hP.sub (ws' := [(ma, .inr (6, mo_ th zk zp za zb zx zy sn zf zt zw zm zh a b c0 d zz cu zo zu))]) [0] rfl
  have hD9 := hD.sub (ws' := [(ma, .inr (6, mo_ th zk zp za zb zx zy sn zf zt zw zm zh a b c0 d zz cu zo zu))]) [0] (by decide) rfl
  exact W.vret hx hb hr (fun t ht hW => ⟨⟨(), rfl, trivial, by rw [ht]; exact hP9, va_K.moved hW.alike hK, hD9⟩, hS.F ht⟩) hS.2.2 dX6_stand_22

set_option maxHeartbeats 1000000 in
set_option maxRecDepth 100000 in
theorem kX6_at (l : Launch) (g : va_G) (cI cJ cZ : ClassId) (sz : Nat) (ma : Nat) (th : Int32) (sn : Int32) (x0 : Int64) (y0 : Int64) (dx : Int64) (dy : Int64) (cu : Int32) (zk : Nat) (zp : Nat) (za : Nat) (zb : Nat) (zx : Nat) (zy : Nat) (zf : Nat) (zt : Nat) (zw : Nat) (zm : Nat) (zh : Nat) (zz : Nat) (zo : Nat) (zu : Nat) (z : Nat → Int64) (o : Int64) (d : Int64)  : Met l yX6_at wsX6_at ({ frames := 2, cells := 0, slots := 0, locals := 51 }) (pc_ g cI cJ cZ [.ref ma, .long o, .long d] [(ma, .inr (6, mo_ th zk zp za zb zx zy sn zf zt zw zm zh x0 y0 dx dy zz cu zo zu)), (zz, .inl (cJ, 192, .inr (.inl z)))] sz) (va_Qv (fun (z2 : (Nat → Int64)) => gq_ z2 o.toInt d.toInt) (fun (z2 : (Nat → Int64)) t => wd_ g cI cJ cZ (va_A [(ma, .inr (6, mo_ th zk zp za zb zx zy sn zf zt zw zm zh x0 y0 dx dy zz cu zo zu)), (zz, .inl (cJ, 192, .inr (.inl z)))] sz) [(ma, .inr (6, mo_ th zk zp za zb zx zy sn zf zt zw zm zh x0 y0 dx dy zz cu zo zu)), (zz, .inl (cJ, 192, .inr (.inl z2)))] t) (va_A [(ma, .inr (6, mo_ th zk zp za zb zx zy sn zf zt zw zm zh x0 y0 dx dy zz cu zo zu)), (zz, .inl (cJ, 192, .inr (.inl z)))] sz)) (0) (0) (va_A [(ma, .inr (6, mo_ th zk zp za zb zx zy sn zf zt zw zm zh x0 y0 dx dy zz cu zo zu)), (zz, .inl (cJ, 192, .inr (.inl z)))] sz) := by
  refine Met.ofW (cc := cX6_at) (maxL := 5) (ret := none) (by decide) rfl ?_
  intro p e s m args below meth c s₁ B hml hv
  obtain ⟨rfl, hsz, hP, hK, hD0⟩ := hv
  have hx := B.exec
  have hb := B.bytes
  have hr := B.returns
  have hts := atoms_spec (ws := wsX6_at) B.pre
  have hown : s.vm.findClass RX6 = some m.cls := findClass_of_methodNamed B.named
  have hlocks := B.notSynchronized
  subst hsz
  have hD := hD0.self (sz := s.heap.size)
  generalize hAe : va_A [(ma, .inr (6, mo_ th zk zp za zb zx zy sn zf zt zw zm zh x0 y0 dx dy zz cu zo zu)), (zz, .inl (cJ, 192, .inr (.inl z)))] s.heap.size = A at hD ⊢
  have hA : ∀ q : Nat, s.heap.size ≤ q → A q := fun q h => by rw [← hAe]; exact Or.inr h
  have hS : va_S A s.heap s.heap [] := va_S.rf
  have hP : va_P g vwCl [(ma, .inr (6, mo_ th zk zp za zb zx zy sn zf zt zw zm zh x0 y0 dx dy zz cu zo zu)), (zz, .inl (cJ, 192, .inr (.inl z)))] s.heap := hP
  have hl := lv_entry ([.ref ma, .long o, .long d]) (n := 5) (Nat.le_of_ble_eq_true rfl)
  rw [lg_entry_eq]
  generalize (lg_sl ([.ref ma, .long o, .long d]) ++ List.replicate (5 - (lg_sl ([.ref ma, .long o, .long d])).length) Slot.unset).toArray = ls at hl ⊢
  have hl : lv_has ls 5 [(0, .ref ma), (1, .long o), (3, .long d)] := hl
  have hH0 : s.heap = s.heap := rfl
  refine lv_aload_n hx hb dX6_at_0 rfl (lv_at hl 0 rfl) ?_
  refine lv_iconst (v := 0) hx hb dX6_at_1 (by decide) ?_
  refine lv_lload_n hx hb dX6_at_2 rfl (lv_at hl 1 rfl) ?_
  have hPc := hP.sub (ws' := [(ma, .inr (6, mo_ th zk zp za zb zx zy sn zf zt zw zm zh x0 y0 dx dy zz cu zo zu)), (zz, .inl (cJ, 192, .inr (.inl z)))]) [0, 1] rfl
  have hDc := hD.sub (ws' := [(ma, .inr (6, mo_ th zk zp za zb zx zy sn zf zt zw zm zh x0 y0 dx dy zz cu zo zu)), (zz, .inl (cJ, 192, .inr (.inl z)))]) [0, 1] (by decide) rfl
  have hFc := va_free (wc := [(ma, .inr (6, mo_ th zk zp za zb zx zy sn zf zt zw zm zh x0 y0 dx dy zz cu zo zu)), (zz, .inl (cJ, 192, .inr (.inl z)))]) hD hS hA [0, 1] rfl
  refine va_callv (va_runV (As := [.int (nI 0), .long o]) (rest := []) ⟨hx, hb, hml, hown, hts⟩ (kX6_set l g cI cJ cZ s.heap.size ma th sn x0 y0 dx dy cu zk zp za zb zx zy zf zt zw zm zh zz zo zu z 0 o (by decide)) (cwV 2 hts gX6_at_X6_set rfl rfl rfl (by decide +kernel) ⟨Nat.le_of_ble_eq_true rfl, Nat.le_of_ble_eq_true rfl⟩) (pv_ hK hPc hDc (va_recv hK hPc (ci := 6) (q0 := 0) rfl rfl)) rfl rfl hl.1 rfl (lv_room (Nat.le_of_ble_eq_true rfl)) dX6_at_3 ⟨Nat.zero_le _, Nat.zero_le _⟩) hS (fun q _ h => hFc q h) hFc (fun u t H1 locs ht hvm hw hB hz1 hk1 hS => ?_)
  obtain ⟨hP1, hK1, hD1⟩ := hB
  rw [ht] at hP1
  obtain ⟨hP, hD⟩ := va_join (wr := []) (w1 := [(ma, .inr (6, mo_ th zk zp za zb zx zy sn zf zt zw zm zh x0 y0 dx dy zz cu zo zu)), (zz, .inl (cJ, 192, .inr (.inl (set_ z 0 o))))]) hP hD [0, 1] [] rfl rfl (by decide) (by decide) hk1 hFc hP1 hD1
  clear hPc hDc hFc hP1 hD1 hK1 hk1 hz1 hvm ht
  generalize H1 = H at hP hS ⊢
  have hP : va_P g vwCl [(ma, .inr (6, mo_ th zk zp za zb zx zy sn zf zt zw zm zh x0 y0 dx dy zz cu zo zu)), (zz, .inl (cJ, 192, .inr (.inl (set_ z 0 o))))] H := hP
  have hD : va_D A [(ma, .inr (6, mo_ th zk zp za zb zx zy sn zf zt zw zm zh x0 y0 dx dy zz cu zo zu)), (zz, .inl (cJ, 192, .inr (.inl (set_ z 0 o))))] := hD
  refine lv_aload_n hx hb dX6_at_6 rfl (lv_at hl 0 rfl) ?_
  refine lv_iconst (v := 1) hx hb dX6_at_7 (by decide) ?_
  refine lv_lload_n hx hb dX6_at_8 rfl (lv_at hl 2 rfl) ?_
  have hPc := hP.sub (ws' := [(ma, .inr (6, mo_ th zk zp za zb zx zy sn zf zt zw zm zh x0 y0 dx dy zz cu zo zu)), (zz, .inl (cJ, 192, .inr (.inl (set_ z 0 o))))]) [0, 1] rfl
  have hDc := hD.sub (ws' := [(ma, .inr (6, mo_ th zk zp za zb zx zy sn zf zt zw zm zh x0 y0 dx dy zz cu zo zu)), (zz, .inl (cJ, 192, .inr (.inl (set_ z 0 o))))]) [0, 1] (by decide) rfl
  have hFc := va_free (wc := [(ma, .inr (6, mo_ th zk zp za zb zx zy sn zf zt zw zm zh x0 y0 dx dy zz cu zo zu)), (zz, .inl (cJ, 192, .inr (.inl (set_ z 0 o))))]) hD hS hA [0, 1] rfl
  refine va_callv (va_runV (As := [.int (nI 1), .long d]) (rest := []) ⟨hx, hb, hml, hown, hts⟩ (kX6_set l g cI cJ cZ H.size ma th sn x0 y0 dx dy cu zk zp za zb zx zy zf zt zw zm zh zz zo zu (set_ z 0 o) 1 d (by decide)) (cwV 2 hts gX6_at_X6_set rfl rfl rfl (by decide +kernel) ⟨Nat.le_of_ble_eq_true rfl, Nat.le_of_ble_eq_true rfl⟩) (pv_ hK hPc hDc (va_recv hK hPc (ci := 6) (q0 := 0) rfl rfl)) rfl rfl hl.1 rfl (lv_room (Nat.le_of_ble_eq_true rfl)) dX6_at_9 ⟨Nat.zero_le _, Nat.zero_le _⟩) hS (fun q _ h => hFc q h) hFc (fun u t H1 locs ht hvm hw hB hz1 hk1 hS => ?_)
  obtain ⟨hP1, hK1, hD1⟩ := hB
  rw [ht] at hP1
  obtain ⟨hP, hD⟩ := va_join (wr := []) (w1 := [(ma, .inr (6, mo_ th zk zp za zb zx zy sn zf zt zw zm zh x0 y0 dx dy zz cu zo zu)), (zz, .inl (cJ, 192, .inr (.inl (set_ (set_ z 0 o) 1 d))))]) hP hD [0, 1] [] rfl rfl (by decide) (by decide) hk1 hFc hP1 hD1
  clear hPc hDc hFc hP1 hD1 hK1 hk1 hz1 hvm ht
  generalize H1 = H at hP hS ⊢
  have hP : va_P g vwCl [(ma, .inr (6, mo_ th zk zp za zb zx zy sn zf zt zw zm zh x0 y0 dx dy zz cu zo zu)), (zz, .inl (cJ, 192, .inr (.inl (set_ (set_ z 0 o) 1 d))))] H := hP
  have hD : va_D A [(ma, .inr (6, mo_ th zk zp za zb zx zy sn zf zt zw zm zh x0 y0 dx dy zz cu zo zu)), (zz, .inl (cJ, 192, .inr (.inl (set_ (set_ z 0 o) 1 d))))] := hD
  have hP9 := hP.sub (ws' := [(ma, .inr (6, mo_ th zk zp za zb zx zy sn zf zt zw zm zh x0 y0 dx dy zz cu zo zu)), (zz, .inl (cJ, 192, .inr (.inl (set_ (set_ z 0 o) 1 d))))]) [0, 1] rfl
  have hD9 := hD.sub (ws' := [(ma, .inr (6, mo_ th zk zp za zb zx zy sn zf zt zw zm zh x0 y0 dx dy zz cu zo zu)), (zz, .inl (cJ, 192, .inr (.inl (set_ (set_ z 0 o) 1 d))))]) [0, 1] (by decide) rfl
  exact W.vret hx hb hr (fun t ht hW => ⟨⟨set_ (set_ z 0 o) 1 d, rfl, at_g, by rw [ht]; exact hP9, va_K.moved hW.alike hK, hD9⟩, hS.F ht⟩) hS.2.2 dX6_at_12

set_option maxHeartbeats 1000000 in
set_option maxRecDepth 100000 in
theorem kX6_between (l : Launch) (g : va_G) (cI cJ cZ : ClassId) (sz : Nat) (ma : Nat) (th : Int32) (sn : Int32) (x0 : Int64) (y0 : Int64) (dx : Int64) (dy : Int64) (cu : Int32) (zk : Nat) (zp : Nat) (za : Nat) (zb : Nat) (zx : Nat) (zy : Nat) (zf : Nat) (zt : Nat) (zw : Nat) (zm : Nat) (zh : Nat) (zz : Nat) (zo : Nat) (zu : Nat) (z : Nat → Int64) (p1 : Int64) (q1 : Int64) (p2 : Int64) (q2 : Int64)  : Met l yX6_between wsX6_between ({ frames := 2, cells := 0, slots := 0, locals := 51 }) (pc_ g cI cJ cZ [.ref ma, .long p1, .long q1, .long p2, .long q2] [(ma, .inr (6, mo_ th zk zp za zb zx zy sn zf zt zw zm zh x0 y0 dx dy zz cu zo zu)), (zz, .inl (cJ, 192, .inr (.inl z)))] sz) (va_Qv (fun (z2 : (Nat → Int64)) => gq_ z2 (p1.toInt * q2.toInt + p2.toInt * q1.toInt) (q1.toInt * q2.toInt + q1.toInt * q2.toInt)) (fun (z2 : (Nat → Int64)) t => wd_ g cI cJ cZ (va_A [(ma, .inr (6, mo_ th zk zp za zb zx zy sn zf zt zw zm zh x0 y0 dx dy zz cu zo zu)), (zz, .inl (cJ, 192, .inr (.inl z)))] sz) [(ma, .inr (6, mo_ th zk zp za zb zx zy sn zf zt zw zm zh x0 y0 dx dy zz cu zo zu)), (zz, .inl (cJ, 192, .inr (.inl z2)))] t) (va_A [(ma, .inr (6, mo_ th zk zp za zb zx zy sn zf zt zw zm zh x0 y0 dx dy zz cu zo zu)), (zz, .inl (cJ, 192, .inr (.inl z)))] sz)) (0) (0) (va_A [(ma, .inr (6, mo_ th zk zp za zb zx zy sn zf zt zw zm zh x0 y0 dx dy zz cu zo zu)), (zz, .inl (cJ, 192, .inr (.inl z)))] sz) := by
  refine Met.ofW (cc := cX6_between) (maxL := 9) (ret := none) (by decide) rfl ?_
  intro p e s m args below meth c s₁ B hml hv
  obtain ⟨rfl, hsz, hP, hK, hD0⟩ := hv
  have hx := B.exec
  have hb := B.bytes
  have hr := B.returns
  have hts := atoms_spec (ws := wsX6_between) B.pre
  have hown : s.vm.findClass RX6 = some m.cls := findClass_of_methodNamed B.named
  have hlocks := B.notSynchronized
  subst hsz
  have hD := hD0.self (sz := s.heap.size)
  generalize hAe : va_A [(ma, .inr (6, mo_ th zk zp za zb zx zy sn zf zt zw zm zh x0 y0 dx dy zz cu zo zu)), (zz, .inl (cJ, 192, .inr (.inl z)))] s.heap.size = A at hD ⊢
  have hA : ∀ q : Nat, s.heap.size ≤ q → A q := fun q h => by rw [← hAe]; exact Or.inr h
  have hS : va_S A s.heap s.heap [] := va_S.rf
  have hP : va_P g vwCl [(ma, .inr (6, mo_ th zk zp za zb zx zy sn zf zt zw zm zh x0 y0 dx dy zz cu zo zu)), (zz, .inl (cJ, 192, .inr (.inl z)))] s.heap := hP
  have hl := lv_entry ([.ref ma, .long p1, .long q1, .long p2, .long q2]) (n := 9) (Nat.le_of_ble_eq_true rfl)
  rw [lg_entry_eq]
  generalize (lg_sl ([.ref ma, .long p1, .long q1, .long p2, .long q2]) ++ List.replicate (9 - (lg_sl ([.ref ma, .long p1, .long q1, .long p2, .long q2])).length) Slot.unset).toArray = ls at hl ⊢
  have hl : lv_has ls 9 [(0, .ref ma), (1, .long p1), (3, .long q1), (5, .long p2), (7, .long q2)] := hl
  have hH0 : s.heap = s.heap := rfl
  refine lv_aload_n hx hb dX6_between_0 rfl (lv_at hl 0 rfl) ?_
  refine lv_iconst (v := 2) hx hb dX6_between_1 (by decide) ?_
  refine lv_lload_n hx hb dX6_between_2 rfl (lv_at hl 1 rfl) ?_
  have hPc := hP.sub (ws' := [(ma, .inr (6, mo_ th zk zp za zb zx zy sn zf zt zw zm zh x0 y0 dx dy zz cu zo zu)), (zz, .inl (cJ, 192, .inr (.inl z)))]) [0, 1] rfl
  have hDc := hD.sub (ws' := [(ma, .inr (6, mo_ th zk zp za zb zx zy sn zf zt zw zm zh x0 y0 dx dy zz cu zo zu)), (zz, .inl (cJ, 192, .inr (.inl z)))]) [0, 1] (by decide) rfl
  have hFc := va_free (wc := [(ma, .inr (6, mo_ th zk zp za zb zx zy sn zf zt zw zm zh x0 y0 dx dy zz cu zo zu)), (zz, .inl (cJ, 192, .inr (.inl z)))]) hD hS hA [0, 1] rfl
  refine va_callv (va_runV (As := [.int 2, .long p1]) (rest := []) ⟨hx, hb, hml, hown, hts⟩ (kX6_set l g cI cJ cZ s.heap.size ma th sn x0 y0 dx dy cu zk zp za zb zx zy zf zt zw zm zh zz zo zu z 2 p1 (by decide)) (cwV 2 hts gX6_between_X6_set rfl rfl rfl (by decide +kernel) ⟨Nat.le_of_ble_eq_true rfl, Nat.le_of_ble_eq_true rfl⟩) (pv_ hK hPc hDc (va_recv hK hPc (ci := 6) (q0 := 0) rfl rfl)) rfl rfl hl.1 rfl (lv_room (Nat.le_of_ble_eq_true rfl)) dX6_between_3 ⟨Nat.zero_le _, Nat.zero_le _⟩) hS (fun q _ h => hFc q h) hFc (fun u t H1 locs ht hvm hw hB hz1 hk1 hS => ?_)
  obtain ⟨hP1, hK1, hD1⟩ := hB
  rw [ht] at hP1
  obtain ⟨hP, hD⟩ := va_join (wr := []) (w1 := [(ma, .inr (6, mo_ th zk zp za zb zx zy sn zf zt zw zm zh x0 y0 dx dy zz cu zo zu)), (zz, .inl (cJ, 192, .inr (.inl (set_ z 2 p1))))]) hP hD [0, 1] [] rfl rfl (by decide) (by decide) hk1 hFc hP1 hD1
  clear hPc hDc hFc hP1 hD1 hK1 hk1 hz1 hvm ht
  generalize H1 = H at hP hS ⊢
  have hP : va_P g vwCl [(ma, .inr (6, mo_ th zk zp za zb zx zy sn zf zt zw zm zh x0 y0 dx dy zz cu zo zu)), (zz, .inl (cJ, 192, .inr (.inl (set_ z 2 p1))))] H := hP
  have hD : va_D A [(ma, .inr (6, mo_ th zk zp za zb zx zy sn zf zt zw zm zh x0 y0 dx dy zz cu zo zu)), (zz, .inl (cJ, 192, .inr (.inl (set_ z 2 p1))))] := hD
  refine lv_aload_n hx hb dX6_between_6 rfl (lv_at hl 0 rfl) ?_
  refine lv_iconst (v := 3) hx hb dX6_between_7 (by decide) ?_
  refine lv_lload_n hx hb dX6_between_8 rfl (lv_at hl 2 rfl) ?_
  have hPc := hP.sub (ws' := [(ma, .inr (6, mo_ th zk zp za zb zx zy sn zf zt zw zm zh x0 y0 dx dy zz cu zo zu)), (zz, .inl (cJ, 192, .inr (.inl (set_ z 2 p1))))]) [0, 1] rfl
  have hDc := hD.sub (ws' := [(ma, .inr (6, mo_ th zk zp za zb zx zy sn zf zt zw zm zh x0 y0 dx dy zz cu zo zu)), (zz, .inl (cJ, 192, .inr (.inl (set_ z 2 p1))))]) [0, 1] (by decide) rfl
  have hFc := va_free (wc := [(ma, .inr (6, mo_ th zk zp za zb zx zy sn zf zt zw zm zh x0 y0 dx dy zz cu zo zu)), (zz, .inl (cJ, 192, .inr (.inl (set_ z 2 p1))))]) hD hS hA [0, 1] rfl
  refine va_callv (va_runV (As := [.int 3, .long q1]) (rest := []) ⟨hx, hb, hml, hown, hts⟩ (kX6_set l g cI cJ cZ H.size ma th sn x0 y0 dx dy cu zk zp za zb zx zy zf zt zw zm zh zz zo zu (set_ z 2 p1) 3 q1 (by decide)) (cwV 2 hts gX6_between_X6_set rfl rfl rfl (by decide +kernel) ⟨Nat.le_of_ble_eq_true rfl, Nat.le_of_ble_eq_true rfl⟩) (pv_ hK hPc hDc (va_recv hK hPc (ci := 6) (q0 := 0) rfl rfl)) rfl rfl hl.1 rfl (lv_room (Nat.le_of_ble_eq_true rfl)) dX6_between_9 ⟨Nat.zero_le _, Nat.zero_le _⟩) hS (fun q _ h => hFc q h) hFc (fun u t H1 locs ht hvm hw hB hz1 hk1 hS => ?_)
  obtain ⟨hP1, hK1, hD1⟩ := hB
  rw [ht] at hP1
  obtain ⟨hP, hD⟩ := va_join (wr := []) (w1 := [(ma, .inr (6, mo_ th zk zp za zb zx zy sn zf zt zw zm zh x0 y0 dx dy zz cu zo zu)), (zz, .inl (cJ, 192, .inr (.inl (set_ (set_ z 2 p1) 3 q1))))]) hP hD [0, 1] [] rfl rfl (by decide) (by decide) hk1 hFc hP1 hD1
  clear hPc hDc hFc hP1 hD1 hK1 hk1 hz1 hvm ht
  generalize H1 = H at hP hS ⊢
  have hP : va_P g vwCl [(ma, .inr (6, mo_ th zk zp za zb zx zy sn zf zt zw zm zh x0 y0 dx dy zz cu zo zu)), (zz, .inl (cJ, 192, .inr (.inl (set_ (set_ z 2 p1) 3 q1))))] H := hP
  have hD : va_D A [(ma, .inr (6, mo_ th zk zp za zb zx zy sn zf zt zw zm zh x0 y0 dx dy zz cu zo zu)), (zz, .inl (cJ, 192, .inr (.inl (set_ (set_ z 2 p1) 3 q1))))] := hD
  refine lv_aload_n hx hb dX6_between_12 rfl (lv_at hl 0 rfl) ?_
  refine lv_iconst (v := 4) hx hb dX6_between_13 (by decide) ?_
  refine lv_lload hx hb dX6_between_14 (lv_at hl 3 rfl) ?_
  have hPc := hP.sub (ws' := [(ma, .inr (6, mo_ th zk zp za zb zx zy sn zf zt zw zm zh x0 y0 dx dy zz cu zo zu)), (zz, .inl (cJ, 192, .inr (.inl (set_ (set_ z 2 p1) 3 q1))))]) [0, 1] rfl
  have hDc := hD.sub (ws' := [(ma, .inr (6, mo_ th zk zp za zb zx zy sn zf zt zw zm zh x0 y0 dx dy zz cu zo zu)), (zz, .inl (cJ, 192, .inr (.inl (set_ (set_ z 2 p1) 3 q1))))]) [0, 1] (by decide) rfl
  have hFc := va_free (wc := [(ma, .inr (6, mo_ th zk zp za zb zx zy sn zf zt zw zm zh x0 y0 dx dy zz cu zo zu)), (zz, .inl (cJ, 192, .inr (.inl (set_ (set_ z 2 p1) 3 q1))))]) hD hS hA [0, 1] rfl
  refine va_callv (va_runV (As := [.int 4, .long p2]) (rest := []) ⟨hx, hb, hml, hown, hts⟩ (kX6_set l g cI cJ cZ H.size ma th sn x0 y0 dx dy cu zk zp za zb zx zy zf zt zw zm zh zz zo zu (set_ (set_ z 2 p1) 3 q1) 4 p2 (by decide)) (cwV 2 hts gX6_between_X6_set rfl rfl rfl (by decide +kernel) ⟨Nat.le_of_ble_eq_true rfl, Nat.le_of_ble_eq_true rfl⟩) (pv_ hK hPc hDc (va_recv hK hPc (ci := 6) (q0 := 0) rfl rfl)) rfl rfl hl.1 rfl (lv_room (Nat.le_of_ble_eq_true rfl)) dX6_between_16 ⟨Nat.zero_le _, Nat.zero_le _⟩) hS (fun q _ h => hFc q h) hFc (fun u t H1 locs ht hvm hw hB hz1 hk1 hS => ?_)
  obtain ⟨hP1, hK1, hD1⟩ := hB
  rw [ht] at hP1
  obtain ⟨hP, hD⟩ := va_join (wr := []) (w1 := [(ma, .inr (6, mo_ th zk zp za zb zx zy sn zf zt zw zm zh x0 y0 dx dy zz cu zo zu)), (zz, .inl (cJ, 192, .inr (.inl (set_ (set_ (set_ z 2 p1) 3 q1) 4 p2))))]) hP hD [0, 1] [] rfl rfl (by decide) (by decide) hk1 hFc hP1 hD1
  clear hPc hDc hFc hP1 hD1 hK1 hk1 hz1 hvm ht
  generalize H1 = H at hP hS ⊢
  have hP : va_P g vwCl [(ma, .inr (6, mo_ th zk zp za zb zx zy sn zf zt zw zm zh x0 y0 dx dy zz cu zo zu)), (zz, .inl (cJ, 192, .inr (.inl (set_ (set_ (set_ z 2 p1) 3 q1) 4 p2))))] H := hP
  have hD : va_D A [(ma, .inr (6, mo_ th zk zp za zb zx zy sn zf zt zw zm zh x0 y0 dx dy zz cu zo zu)), (zz, .inl (cJ, 192, .inr (.inl (set_ (set_ (set_ z 2 p1) 3 q1) 4 p2))))] := hD
  refine lv_aload_n hx hb dX6_between_19 rfl (lv_at hl 0 rfl) ?_
  refine lv_iconst (v := 5) hx hb dX6_between_20 (by decide) ?_
  refine lv_lload hx hb dX6_between_21 (lv_at hl 4 rfl) ?_
  have hPc := hP.sub (ws' := [(ma, .inr (6, mo_ th zk zp za zb zx zy sn zf zt zw zm zh x0 y0 dx dy zz cu zo zu)), (zz, .inl (cJ, 192, .inr (.inl (set_ (set_ (set_ z 2 p1) 3 q1) 4 p2))))]) [0, 1] rfl
  have hDc := hD.sub (ws' := [(ma, .inr (6, mo_ th zk zp za zb zx zy sn zf zt zw zm zh x0 y0 dx dy zz cu zo zu)), (zz, .inl (cJ, 192, .inr (.inl (set_ (set_ (set_ z 2 p1) 3 q1) 4 p2))))]) [0, 1] (by decide) rfl
  have hFc := va_free (wc := [(ma, .inr (6, mo_ th zk zp za zb zx zy sn zf zt zw zm zh x0 y0 dx dy zz cu zo zu)), (zz, .inl (cJ, 192, .inr (.inl (set_ (set_ (set_ z 2 p1) 3 q1) 4 p2))))]) hD hS hA [0, 1] rfl
  refine va_callv (va_runV (As := [.int 5, .long q2]) (rest := []) ⟨hx, hb, hml, hown, hts⟩ (kX6_set l g cI cJ cZ H.size ma th sn x0 y0 dx dy cu zk zp za zb zx zy zf zt zw zm zh zz zo zu (set_ (set_ (set_ z 2 p1) 3 q1) 4 p2) 5 q2 (by decide)) (cwV 2 hts gX6_between_X6_set rfl rfl rfl (by decide +kernel) ⟨Nat.le_of_ble_eq_true rfl, Nat.le_of_ble_eq_true rfl⟩) (pv_ hK hPc hDc (va_recv hK hPc (ci := 6) (q0 := 0) rfl rfl)) rfl rfl hl.1 rfl (lv_room (Nat.le_of_ble_eq_true rfl)) dX6_between_23 ⟨Nat.zero_le _, Nat.zero_le _⟩) hS (fun q _ h => hFc q h) hFc (fun u t H1 locs ht hvm hw hB hz1 hk1 hS => ?_)
  obtain ⟨hP1, hK1, hD1⟩ := hB
  rw [ht] at hP1
  obtain ⟨hP, hD⟩ := va_join (wr := []) (w1 := [(ma, .inr (6, mo_ th zk zp za zb zx zy sn zf zt zw zm zh x0 y0 dx dy zz cu zo zu)), (zz, .inl (cJ, 192, .inr (.inl (set_ (set_ (set_ (set_ z 2 p1) 3 q1) 4 p2) 5 q2))))]) hP hD [0, 1] [] rfl rfl (by decide) (by decide) hk1 hFc hP1 hD1
  clear hPc hDc hFc hP1 hD1 hK1 hk1 hz1 hvm ht
  generalize H1 = H at hP hS ⊢
  have hP : va_P g vwCl [(ma, .inr (6, mo_ th zk zp za zb zx zy sn zf zt zw zm zh x0 y0 dx dy zz cu zo zu)), (zz, .inl (cJ, 192, .inr (.inl (set_ (set_ (set_ (set_ z 2 p1) 3 q1) 4 p2) 5 q2))))] H := hP
  have hD : va_D A [(ma, .inr (6, mo_ th zk zp za zb zx zy sn zf zt zw zm zh x0 y0 dx dy zz cu zo zu)), (zz, .inl (cJ, 192, .inr (.inl (set_ (set_ (set_ (set_ z 2 p1) 3 q1) 4 p2) 5 q2))))] := hD
  refine lv_aload_n hx hb dX6_between_26 rfl (lv_at hl 0 rfl) ?_
  refine lv_iconst (v := 0) hx hb dX6_between_27 (by decide) ?_
  have hPc := hP.sub (ws' := [(ma, .inr (6, mo_ th zk zp za zb zx zy sn zf zt zw zm zh x0 y0 dx dy zz cu zo zu)), (zz, .inl (cJ, 192, .inr (.inl (set_ (set_ (set_ (set_ z 2 p1) 3 q1) 4 p2) 5 q2))))]) [0, 1] rfl
  have hDc := hD.sub (ws' := [(ma, .inr (6, mo_ th zk zp za zb zx zy sn zf zt zw zm zh x0 y0 dx dy zz cu zo zu)), (zz, .inl (cJ, 192, .inr (.inl (set_ (set_ (set_ (set_ z 2 p1) 3 q1) 4 p2) 5 q2))))]) [0, 1] (by decide) rfl
  have hFc := va_free (wc := [(ma, .inr (6, mo_ th zk zp za zb zx zy sn zf zt zw zm zh x0 y0 dx dy zz cu zo zu)), (zz, .inl (cJ, 192, .inr (.inl (set_ (set_ (set_ (set_ z 2 p1) 3 q1) 4 p2) 5 q2))))]) hD hS hA [0, 1] rfl
  refine va_callv (va_runV (As := [.int 0]) (rest := []) ⟨hx, hb, hml, hown, hts⟩ (kX6_clear l g cI cJ cZ H.size ma th sn x0 y0 dx dy cu zk zp za zb zx zy zf zt zw zm zh zz zo zu (set_ (set_ (set_ (set_ z 2 p1) 3 q1) 4 p2) 5 q2) 0 (by decide)) (cwV 1 hts gX6_between_X6_clear rfl rfl rfl (by decide +kernel) ⟨Nat.le_of_ble_eq_true rfl, Nat.le_of_ble_eq_true rfl⟩) (pv_ hK hPc hDc (va_recv hK hPc (ci := 6) (q0 := 0) rfl rfl)) rfl rfl hl.1 rfl (lv_room (Nat.le_of_ble_eq_true rfl)) dX6_between_28 ⟨Nat.zero_le _, Nat.zero_le _⟩) hS (fun q _ h => hFc q h) hFc (fun u t H1 locs ht hvm hw hB hz1 hk1 hS => ?_)
  obtain ⟨hP1, hK1, hD1⟩ := hB
  rw [ht] at hP1
  obtain ⟨hP, hD⟩ := va_join (wr := []) (w1 := [(ma, .inr (6, mo_ th zk zp za zb zx zy sn zf zt zw zm zh x0 y0 dx dy zz cu zo zu)), (zz, .inl (cJ, 192, .inr (.inl (cl_ (set_ (set_ (set_ (set_ z 2 p1) 3 q1) 4 p2) 5 q2) (16 * 0) 16))))]) hP hD [0, 1] [] rfl rfl (by decide) (by decide) hk1 hFc hP1 hD1
  clear hPc hDc hFc hP1 hD1 hK1 hk1 hz1 hvm ht
  generalize H1 = H at hP hS ⊢
  have hP : va_P g vwCl [(ma, .inr (6, mo_ th zk zp za zb zx zy sn zf zt zw zm zh x0 y0 dx dy zz cu zo zu)), (zz, .inl (cJ, 192, .inr (.inl (cl_ (set_ (set_ (set_ (set_ z 2 p1) 3 q1) 4 p2) 5 q2) (16 * 0) 16))))] H := hP
  have hD : va_D A [(ma, .inr (6, mo_ th zk zp za zb zx zy sn zf zt zw zm zh x0 y0 dx dy zz cu zo zu)), (zz, .inl (cJ, 192, .inr (.inl (cl_ (set_ (set_ (set_ (set_ z 2 p1) 3 q1) 4 p2) 5 q2) (16 * 0) 16))))] := hD
  refine lv_aload_n hx hb dX6_between_31 rfl (lv_at hl 0 rfl) ?_
  refine lv_iconst (v := 0) hx hb dX6_between_32 (by decide) ?_
  refine lv_iconst (v := 2) hx hb dX6_between_33 (by decide) ?_
  refine lv_iconst (v := 5) hx hb dX6_between_34 (by decide) ?_
  have hPc := hP.sub (ws' := [(ma, .inr (6, mo_ th zk zp za zb zx zy sn zf zt zw zm zh x0 y0 dx dy zz cu zo zu)), (zz, .inl (cJ, 192, .inr (.inl (cl_ (set_ (set_ (set_ (set_ z 2 p1) 3 q1) 4 p2) 5 q2) (16 * 0) 16))))]) [0, 1] rfl
  have hDc := hD.sub (ws' := [(ma, .inr (6, mo_ th zk zp za zb zx zy sn zf zt zw zm zh x0 y0 dx dy zz cu zo zu)), (zz, .inl (cJ, 192, .inr (.inl (cl_ (set_ (set_ (set_ (set_ z 2 p1) 3 q1) 4 p2) 5 q2) (16 * 0) 16))))]) [0, 1] (by decide) rfl
  have hFc := va_free (wc := [(ma, .inr (6, mo_ th zk zp za zb zx zy sn zf zt zw zm zh x0 y0 dx dy zz cu zo zu)), (zz, .inl (cJ, 192, .inr (.inl (cl_ (set_ (set_ (set_ (set_ z 2 p1) 3 q1) 4 p2) 5 q2) (16 * 0) 16))))]) hD hS hA [0, 1] rfl
  refine va_callv (va_runV (As := [.int 0, .int 2, .int 5]) (rest := []) ⟨hx, hb, hml, hown, hts⟩ (kX6_product l g cI cJ cZ H.size ma th sn x0 y0 dx dy cu zk zp za zb zx zy zf zt zw zm zh zz zo zu (cl_ (set_ (set_ (set_ (set_ z 2 p1) 3 q1) 4 p2) 5 q2) (16 * 0) 16) 0 2 5 (by decide) (by decide) (by decide)) (cwV 3 hts gX6_between_X6_product rfl rfl rfl (by decide +kernel) ⟨Nat.le_of_ble_eq_true rfl, Nat.le_of_ble_eq_true rfl⟩) (pv_ hK hPc hDc (va_recv hK hPc (ci := 6) (q0 := 0) rfl rfl)) rfl rfl hl.1 rfl (lv_room (Nat.le_of_ble_eq_true rfl)) dX6_between_35 ⟨Nat.zero_le _, Nat.zero_le _⟩) hS (fun q _ h => hFc q h) hFc (fun u t H1 locs ht hvm hw hB hz1 hk1 hS => ?_)
  obtain ⟨hP1, hK1, hD1⟩ := hB
  rw [ht] at hP1
  obtain ⟨hP, hD⟩ := va_join (wr := []) (w1 := [(ma, .inr (6, mo_ th zk zp za zb zx zy sn zf zt zw zm zh x0 y0 dx dy zz cu zo zu)), (zz, .inl (cJ, 192, .inr (.inl (pro_ (cl_ (set_ (set_ (set_ (set_ z 2 p1) 3 q1) 4 p2) 5 q2) (16 * 0) 16) 0 2 5 16))))]) hP hD [0, 1] [] rfl rfl (by decide) (by decide) hk1 hFc hP1 hD1
  clear hPc hDc hFc hP1 hD1 hK1 hk1 hz1 hvm ht
  generalize H1 = H at hP hS ⊢
  have hP : va_P g vwCl [(ma, .inr (6, mo_ th zk zp za zb zx zy sn zf zt zw zm zh x0 y0 dx dy zz cu zo zu)), (zz, .inl (cJ, 192, .inr (.inl (pro_ (cl_ (set_ (set_ (set_ (set_ z 2 p1) 3 q1) 4 p2) 5 q2) (16 * 0) 16) 0 2 5 16))))] H := hP
  have hD : va_D A [(ma, .inr (6, mo_ th zk zp za zb zx zy sn zf zt zw zm zh x0 y0 dx dy zz cu zo zu)), (zz, .inl (cJ, 192, .inr (.inl (pro_ (cl_ (set_ (set_ (set_ (set_ z 2 p1) 3 q1) 4 p2) 5 q2) (16 * 0) 16) 0 2 5 16))))] := hD
  refine lv_aload_n hx hb dX6_between_38 rfl (lv_at hl 0 rfl) ?_
  refine lv_iconst (v := 0) hx hb dX6_between_39 (by decide) ?_
  refine lv_iconst (v := 4) hx hb dX6_between_40 (by decide) ?_
  refine lv_iconst (v := 3) hx hb dX6_between_41 (by decide) ?_
  have hPc := hP.sub (ws' := [(ma, .inr (6, mo_ th zk zp za zb zx zy sn zf zt zw zm zh x0 y0 dx dy zz cu zo zu)), (zz, .inl (cJ, 192, .inr (.inl (pro_ (cl_ (set_ (set_ (set_ (set_ z 2 p1) 3 q1) 4 p2) 5 q2) (16 * 0) 16) 0 2 5 16))))]) [0, 1] rfl
  have hDc := hD.sub (ws' := [(ma, .inr (6, mo_ th zk zp za zb zx zy sn zf zt zw zm zh x0 y0 dx dy zz cu zo zu)), (zz, .inl (cJ, 192, .inr (.inl (pro_ (cl_ (set_ (set_ (set_ (set_ z 2 p1) 3 q1) 4 p2) 5 q2) (16 * 0) 16) 0 2 5 16))))]) [0, 1] (by decide) rfl
  have hFc := va_free (wc := [(ma, .inr (6, mo_ th zk zp za zb zx zy sn zf zt zw zm zh x0 y0 dx dy zz cu zo zu)), (zz, .inl (cJ, 192, .inr (.inl (pro_ (cl_ (set_ (set_ (set_ (set_ z 2 p1) 3 q1) 4 p2) 5 q2) (16 * 0) 16) 0 2 5 16))))]) hD hS hA [0, 1] rfl
  refine va_callv (va_runV (As := [.int 0, .int 4, .int 3]) (rest := []) ⟨hx, hb, hml, hown, hts⟩ (kX6_product l g cI cJ cZ H.size ma th sn x0 y0 dx dy cu zk zp za zb zx zy zf zt zw zm zh zz zo zu (pro_ (cl_ (set_ (set_ (set_ (set_ z 2 p1) 3 q1) 4 p2) 5 q2) (16 * 0) 16) 0 2 5 16) 0 4 3 (by decide) (by decide) (by decide)) (cwV 3 hts gX6_between_X6_product rfl rfl rfl (by decide +kernel) ⟨Nat.le_of_ble_eq_true rfl, Nat.le_of_ble_eq_true rfl⟩) (pv_ hK hPc hDc (va_recv hK hPc (ci := 6) (q0 := 0) rfl rfl)) rfl rfl hl.1 rfl (lv_room (Nat.le_of_ble_eq_true rfl)) dX6_between_42 ⟨Nat.zero_le _, Nat.zero_le _⟩) hS (fun q _ h => hFc q h) hFc (fun u t H1 locs ht hvm hw hB hz1 hk1 hS => ?_)
  obtain ⟨hP1, hK1, hD1⟩ := hB
  rw [ht] at hP1
  obtain ⟨hP, hD⟩ := va_join (wr := []) (w1 := [(ma, .inr (6, mo_ th zk zp za zb zx zy sn zf zt zw zm zh x0 y0 dx dy zz cu zo zu)), (zz, .inl (cJ, 192, .inr (.inl (pro_ (pro_ (cl_ (set_ (set_ (set_ (set_ z 2 p1) 3 q1) 4 p2) 5 q2) (16 * 0) 16) 0 2 5 16) 0 4 3 16))))]) hP hD [0, 1] [] rfl rfl (by decide) (by decide) hk1 hFc hP1 hD1
  clear hPc hDc hFc hP1 hD1 hK1 hk1 hz1 hvm ht
  generalize H1 = H at hP hS ⊢
  have hP : va_P g vwCl [(ma, .inr (6, mo_ th zk zp za zb zx zy sn zf zt zw zm zh x0 y0 dx dy zz cu zo zu)), (zz, .inl (cJ, 192, .inr (.inl (pro_ (pro_ (cl_ (set_ (set_ (set_ (set_ z 2 p1) 3 q1) 4 p2) 5 q2) (16 * 0) 16) 0 2 5 16) 0 4 3 16))))] H := hP
  have hD : va_D A [(ma, .inr (6, mo_ th zk zp za zb zx zy sn zf zt zw zm zh x0 y0 dx dy zz cu zo zu)), (zz, .inl (cJ, 192, .inr (.inl (pro_ (pro_ (cl_ (set_ (set_ (set_ (set_ z 2 p1) 3 q1) 4 p2) 5 q2) (16 * 0) 16) 0 2 5 16) 0 4 3 16))))] := hD
  refine lv_aload_n hx hb dX6_between_45 rfl (lv_at hl 0 rfl) ?_
  refine lv_iconst (v := 0) hx hb dX6_between_46 (by decide) ?_
  have hPc := hP.sub (ws' := [(ma, .inr (6, mo_ th zk zp za zb zx zy sn zf zt zw zm zh x0 y0 dx dy zz cu zo zu)), (zz, .inl (cJ, 192, .inr (.inl (pro_ (pro_ (cl_ (set_ (set_ (set_ (set_ z 2 p1) 3 q1) 4 p2) 5 q2) (16 * 0) 16) 0 2 5 16) 0 4 3 16))))]) [0, 1] rfl
  have hDc := hD.sub (ws' := [(ma, .inr (6, mo_ th zk zp za zb zx zy sn zf zt zw zm zh x0 y0 dx dy zz cu zo zu)), (zz, .inl (cJ, 192, .inr (.inl (pro_ (pro_ (cl_ (set_ (set_ (set_ (set_ z 2 p1) 3 q1) 4 p2) 5 q2) (16 * 0) 16) 0 2 5 16) 0 4 3 16))))]) [0, 1] (by decide) rfl
  have hFc := va_free (wc := [(ma, .inr (6, mo_ th zk zp za zb zx zy sn zf zt zw zm zh x0 y0 dx dy zz cu zo zu)), (zz, .inl (cJ, 192, .inr (.inl (pro_ (pro_ (cl_ (set_ (set_ (set_ (set_ z 2 p1) 3 q1) 4 p2) 5 q2) (16 * 0) 16) 0 2 5 16) 0 4 3 16))))]) hD hS hA [0, 1] rfl
  refine va_callv (va_runV (As := [.int 0]) (rest := []) ⟨hx, hb, hml, hown, hts⟩ (kX6_settle l g cI cJ cZ H.size ma th sn x0 y0 dx dy cu zk zp za zb zx zy zf zt zw zm zh zz zo zu (pro_ (pro_ (cl_ (set_ (set_ (set_ (set_ z 2 p1) 3 q1) 4 p2) 5 q2) (16 * 0) 16) 0 2 5 16) 0 4 3 16) 0 (by decide)) (cwV 1 hts gX6_between_X6_settle rfl rfl rfl (by decide +kernel) ⟨Nat.le_of_ble_eq_true rfl, Nat.le_of_ble_eq_true rfl⟩) (pv_ hK hPc hDc (va_recv hK hPc (ci := 6) (q0 := 0) rfl rfl)) rfl rfl hl.1 rfl (lv_room (Nat.le_of_ble_eq_true rfl)) dX6_between_47 ⟨Nat.zero_le _, Nat.zero_le _⟩) hS (fun q _ h => hFc q h) hFc (fun u t H1 locs ht hvm hw hB hz1 hk1 hS => ?_)
  obtain ⟨hP1, hK1, hD1⟩ := hB
  rw [ht] at hP1
  obtain ⟨hP, hD⟩ := va_join (wr := []) (w1 := [(ma, .inr (6, mo_ th zk zp za zb zx zy sn zf zt zw zm zh x0 y0 dx dy zz cu zo zu)), (zz, .inl (cJ, 192, .inr (.inl ((stl_ (pro_ (pro_ (cl_ (set_ (set_ (set_ (set_ z 2 p1) 3 q1) 4 p2) 5 q2) (16 * 0) 16) 0 2 5 16) 0 4 3 16) (16 * 0) 16).1))))]) hP hD [0, 1] [] rfl rfl (by decide) (by decide) hk1 hFc hP1 hD1
  clear hPc hDc hFc hP1 hD1 hK1 hk1 hz1 hvm ht
  generalize H1 = H at hP hS ⊢
  have hP : va_P g vwCl [(ma, .inr (6, mo_ th zk zp za zb zx zy sn zf zt zw zm zh x0 y0 dx dy zz cu zo zu)), (zz, .inl (cJ, 192, .inr (.inl ((stl_ (pro_ (pro_ (cl_ (set_ (set_ (set_ (set_ z 2 p1) 3 q1) 4 p2) 5 q2) (16 * 0) 16) 0 2 5 16) 0 4 3 16) (16 * 0) 16).1))))] H := hP
  have hD : va_D A [(ma, .inr (6, mo_ th zk zp za zb zx zy sn zf zt zw zm zh x0 y0 dx dy zz cu zo zu)), (zz, .inl (cJ, 192, .inr (.inl ((stl_ (pro_ (pro_ (cl_ (set_ (set_ (set_ (set_ z 2 p1) 3 q1) 4 p2) 5 q2) (16 * 0) 16) 0 2 5 16) 0 4 3 16) (16 * 0) 16).1))))] := hD
  refine lv_aload_n hx hb dX6_between_50 rfl (lv_at hl 0 rfl) ?_
  refine lv_iconst (v := 1) hx hb dX6_between_51 (by decide) ?_
  have hPc := hP.sub (ws' := [(ma, .inr (6, mo_ th zk zp za zb zx zy sn zf zt zw zm zh x0 y0 dx dy zz cu zo zu)), (zz, .inl (cJ, 192, .inr (.inl ((stl_ (pro_ (pro_ (cl_ (set_ (set_ (set_ (set_ z 2 p1) 3 q1) 4 p2) 5 q2) (16 * 0) 16) 0 2 5 16) 0 4 3 16) (16 * 0) 16).1))))]) [0, 1] rfl
  have hDc := hD.sub (ws' := [(ma, .inr (6, mo_ th zk zp za zb zx zy sn zf zt zw zm zh x0 y0 dx dy zz cu zo zu)), (zz, .inl (cJ, 192, .inr (.inl ((stl_ (pro_ (pro_ (cl_ (set_ (set_ (set_ (set_ z 2 p1) 3 q1) 4 p2) 5 q2) (16 * 0) 16) 0 2 5 16) 0 4 3 16) (16 * 0) 16).1))))]) [0, 1] (by decide) rfl
  have hFc := va_free (wc := [(ma, .inr (6, mo_ th zk zp za zb zx zy sn zf zt zw zm zh x0 y0 dx dy zz cu zo zu)), (zz, .inl (cJ, 192, .inr (.inl ((stl_ (pro_ (pro_ (cl_ (set_ (set_ (set_ (set_ z 2 p1) 3 q1) 4 p2) 5 q2) (16 * 0) 16) 0 2 5 16) 0 4 3 16) (16 * 0) 16).1))))]) hD hS hA [0, 1] rfl
  refine va_callv (va_runV (As := [.int 1]) (rest := []) ⟨hx, hb, hml, hown, hts⟩ (kX6_clear l g cI cJ cZ H.size ma th sn x0 y0 dx dy cu zk zp za zb zx zy zf zt zw zm zh zz zo zu ((stl_ (pro_ (pro_ (cl_ (set_ (set_ (set_ (set_ z 2 p1) 3 q1) 4 p2) 5 q2) (16 * 0) 16) 0 2 5 16) 0 4 3 16) (16 * 0) 16).1) 1 (by decide)) (cwV 1 hts gX6_between_X6_clear rfl rfl rfl (by decide +kernel) ⟨Nat.le_of_ble_eq_true rfl, Nat.le_of_ble_eq_true rfl⟩) (pv_ hK hPc hDc (va_recv hK hPc (ci := 6) (q0 := 0) rfl rfl)) rfl rfl hl.1 rfl (lv_room (Nat.le_of_ble_eq_true rfl)) dX6_between_52 ⟨Nat.zero_le _, Nat.zero_le _⟩) hS (fun q _ h => hFc q h) hFc (fun u t H1 locs ht hvm hw hB hz1 hk1 hS => ?_)
  obtain ⟨hP1, hK1, hD1⟩ := hB
  rw [ht] at hP1
  obtain ⟨hP, hD⟩ := va_join (wr := []) (w1 := [(ma, .inr (6, mo_ th zk zp za zb zx zy sn zf zt zw zm zh x0 y0 dx dy zz cu zo zu)), (zz, .inl (cJ, 192, .inr (.inl (cl_ ((stl_ (pro_ (pro_ (cl_ (set_ (set_ (set_ (set_ z 2 p1) 3 q1) 4 p2) 5 q2) (16 * 0) 16) 0 2 5 16) 0 4 3 16) (16 * 0) 16).1) (16 * 1) 16))))]) hP hD [0, 1] [] rfl rfl (by decide) (by decide) hk1 hFc hP1 hD1
  clear hPc hDc hFc hP1 hD1 hK1 hk1 hz1 hvm ht
  generalize H1 = H at hP hS ⊢
  have hP : va_P g vwCl [(ma, .inr (6, mo_ th zk zp za zb zx zy sn zf zt zw zm zh x0 y0 dx dy zz cu zo zu)), (zz, .inl (cJ, 192, .inr (.inl (cl_ ((stl_ (pro_ (pro_ (cl_ (set_ (set_ (set_ (set_ z 2 p1) 3 q1) 4 p2) 5 q2) (16 * 0) 16) 0 2 5 16) 0 4 3 16) (16 * 0) 16).1) (16 * 1) 16))))] H := hP
  have hD : va_D A [(ma, .inr (6, mo_ th zk zp za zb zx zy sn zf zt zw zm zh x0 y0 dx dy zz cu zo zu)), (zz, .inl (cJ, 192, .inr (.inl (cl_ ((stl_ (pro_ (pro_ (cl_ (set_ (set_ (set_ (set_ z 2 p1) 3 q1) 4 p2) 5 q2) (16 * 0) 16) 0 2 5 16) 0 4 3 16) (16 * 0) 16).1) (16 * 1) 16))))] := hD
  refine lv_aload_n hx hb dX6_between_55 rfl (lv_at hl 0 rfl) ?_
  refine lv_iconst (v := 1) hx hb dX6_between_56 (by decide) ?_
  refine lv_iconst (v := 3) hx hb dX6_between_57 (by decide) ?_
  refine lv_iconst (v := 5) hx hb dX6_between_58 (by decide) ?_
  have hPc := hP.sub (ws' := [(ma, .inr (6, mo_ th zk zp za zb zx zy sn zf zt zw zm zh x0 y0 dx dy zz cu zo zu)), (zz, .inl (cJ, 192, .inr (.inl (cl_ ((stl_ (pro_ (pro_ (cl_ (set_ (set_ (set_ (set_ z 2 p1) 3 q1) 4 p2) 5 q2) (16 * 0) 16) 0 2 5 16) 0 4 3 16) (16 * 0) 16).1) (16 * 1) 16))))]) [0, 1] rfl
  have hDc := hD.sub (ws' := [(ma, .inr (6, mo_ th zk zp za zb zx zy sn zf zt zw zm zh x0 y0 dx dy zz cu zo zu)), (zz, .inl (cJ, 192, .inr (.inl (cl_ ((stl_ (pro_ (pro_ (cl_ (set_ (set_ (set_ (set_ z 2 p1) 3 q1) 4 p2) 5 q2) (16 * 0) 16) 0 2 5 16) 0 4 3 16) (16 * 0) 16).1) (16 * 1) 16))))]) [0, 1] (by decide) rfl
  have hFc := va_free (wc := [(ma, .inr (6, mo_ th zk zp za zb zx zy sn zf zt zw zm zh x0 y0 dx dy zz cu zo zu)), (zz, .inl (cJ, 192, .inr (.inl (cl_ ((stl_ (pro_ (pro_ (cl_ (set_ (set_ (set_ (set_ z 2 p1) 3 q1) 4 p2) 5 q2) (16 * 0) 16) 0 2 5 16) 0 4 3 16) (16 * 0) 16).1) (16 * 1) 16))))]) hD hS hA [0, 1] rfl
  refine va_callv (va_runV (As := [.int 1, .int 3, .int 5]) (rest := []) ⟨hx, hb, hml, hown, hts⟩ (kX6_product l g cI cJ cZ H.size ma th sn x0 y0 dx dy cu zk zp za zb zx zy zf zt zw zm zh zz zo zu (cl_ ((stl_ (pro_ (pro_ (cl_ (set_ (set_ (set_ (set_ z 2 p1) 3 q1) 4 p2) 5 q2) (16 * 0) 16) 0 2 5 16) 0 4 3 16) (16 * 0) 16).1) (16 * 1) 16) 1 3 5 (by decide) (by decide) (by decide)) (cwV 3 hts gX6_between_X6_product rfl rfl rfl (by decide +kernel) ⟨Nat.le_of_ble_eq_true rfl, Nat.le_of_ble_eq_true rfl⟩) (pv_ hK hPc hDc (va_recv hK hPc (ci := 6) (q0 := 0) rfl rfl)) rfl rfl hl.1 rfl (lv_room (Nat.le_of_ble_eq_true rfl)) dX6_between_59 ⟨Nat.zero_le _, Nat.zero_le _⟩) hS (fun q _ h => hFc q h) hFc (fun u t H1 locs ht hvm hw hB hz1 hk1 hS => ?_)
  obtain ⟨hP1, hK1, hD1⟩ := hB
  rw [ht] at hP1
  obtain ⟨hP, hD⟩ := va_join (wr := []) (w1 := [(ma, .inr (6, mo_ th zk zp za zb zx zy sn zf zt zw zm zh x0 y0 dx dy zz cu zo zu)), (zz, .inl (cJ, 192, .inr (.inl (pro_ (cl_ ((stl_ (pro_ (pro_ (cl_ (set_ (set_ (set_ (set_ z 2 p1) 3 q1) 4 p2) 5 q2) (16 * 0) 16) 0 2 5 16) 0 4 3 16) (16 * 0) 16).1) (16 * 1) 16) 1 3 5 16))))]) hP hD [0, 1] [] rfl rfl (by decide) (by decide) hk1 hFc hP1 hD1
  clear hPc hDc hFc hP1 hD1 hK1 hk1 hz1 hvm ht
  generalize H1 = H at hP hS ⊢
  have hP : va_P g vwCl [(ma, .inr (6, mo_ th zk zp za zb zx zy sn zf zt zw zm zh x0 y0 dx dy zz cu zo zu)), (zz, .inl (cJ, 192, .inr (.inl (pro_ (cl_ ((stl_ (pro_ (pro_ (cl_ (set_ (set_ (set_ (set_ z 2 p1) 3 q1) 4 p2) 5 q2) (16 * 0) 16) 0 2 5 16) 0 4 3 16) (16 * 0) 16).1) (16 * 1) 16) 1 3 5 16))))] H := hP
  have hD : va_D A [(ma, .inr (6, mo_ th zk zp za zb zx zy sn zf zt zw zm zh x0 y0 dx dy zz cu zo zu)), (zz, .inl (cJ, 192, .inr (.inl (pro_ (cl_ ((stl_ (pro_ (pro_ (cl_ (set_ (set_ (set_ (set_ z 2 p1) 3 q1) 4 p2) 5 q2) (16 * 0) 16) 0 2 5 16) 0 4 3 16) (16 * 0) 16).1) (16 * 1) 16) 1 3 5 16))))] := hD
  refine lv_aload_n hx hb dX6_between_62 rfl (lv_at hl 0 rfl) ?_
  refine lv_iconst (v := 1) hx hb dX6_between_63 (by decide) ?_
  refine lv_iconst (v := 3) hx hb dX6_between_64 (by decide) ?_
  refine lv_iconst (v := 5) hx hb dX6_between_65 (by decide) ?_
  have hPc := hP.sub (ws' := [(ma, .inr (6, mo_ th zk zp za zb zx zy sn zf zt zw zm zh x0 y0 dx dy zz cu zo zu)), (zz, .inl (cJ, 192, .inr (.inl (pro_ (cl_ ((stl_ (pro_ (pro_ (cl_ (set_ (set_ (set_ (set_ z 2 p1) 3 q1) 4 p2) 5 q2) (16 * 0) 16) 0 2 5 16) 0 4 3 16) (16 * 0) 16).1) (16 * 1) 16) 1 3 5 16))))]) [0, 1] rfl
  have hDc := hD.sub (ws' := [(ma, .inr (6, mo_ th zk zp za zb zx zy sn zf zt zw zm zh x0 y0 dx dy zz cu zo zu)), (zz, .inl (cJ, 192, .inr (.inl (pro_ (cl_ ((stl_ (pro_ (pro_ (cl_ (set_ (set_ (set_ (set_ z 2 p1) 3 q1) 4 p2) 5 q2) (16 * 0) 16) 0 2 5 16) 0 4 3 16) (16 * 0) 16).1) (16 * 1) 16) 1 3 5 16))))]) [0, 1] (by decide) rfl
  have hFc := va_free (wc := [(ma, .inr (6, mo_ th zk zp za zb zx zy sn zf zt zw zm zh x0 y0 dx dy zz cu zo zu)), (zz, .inl (cJ, 192, .inr (.inl (pro_ (cl_ ((stl_ (pro_ (pro_ (cl_ (set_ (set_ (set_ (set_ z 2 p1) 3 q1) 4 p2) 5 q2) (16 * 0) 16) 0 2 5 16) 0 4 3 16) (16 * 0) 16).1) (16 * 1) 16) 1 3 5 16))))]) hD hS hA [0, 1] rfl
  refine va_callv (va_runV (As := [.int 1, .int 3, .int 5]) (rest := []) ⟨hx, hb, hml, hown, hts⟩ (kX6_product l g cI cJ cZ H.size ma th sn x0 y0 dx dy cu zk zp za zb zx zy zf zt zw zm zh zz zo zu (pro_ (cl_ ((stl_ (pro_ (pro_ (cl_ (set_ (set_ (set_ (set_ z 2 p1) 3 q1) 4 p2) 5 q2) (16 * 0) 16) 0 2 5 16) 0 4 3 16) (16 * 0) 16).1) (16 * 1) 16) 1 3 5 16) 1 3 5 (by decide) (by decide) (by decide)) (cwV 3 hts gX6_between_X6_product rfl rfl rfl (by decide +kernel) ⟨Nat.le_of_ble_eq_true rfl, Nat.le_of_ble_eq_true rfl⟩) (pv_ hK hPc hDc (va_recv hK hPc (ci := 6) (q0 := 0) rfl rfl)) rfl rfl hl.1 rfl (lv_room (Nat.le_of_ble_eq_true rfl)) dX6_between_66 ⟨Nat.zero_le _, Nat.zero_le _⟩) hS (fun q _ h => hFc q h) hFc (fun u t H1 locs ht hvm hw hB hz1 hk1 hS => ?_)
  obtain ⟨hP1, hK1, hD1⟩ := hB
  rw [ht] at hP1
  obtain ⟨hP, hD⟩ := va_join (wr := []) (w1 := [(ma, .inr (6, mo_ th zk zp za zb zx zy sn zf zt zw zm zh x0 y0 dx dy zz cu zo zu)), (zz, .inl (cJ, 192, .inr (.inl (pro_ (pro_ (cl_ ((stl_ (pro_ (pro_ (cl_ (set_ (set_ (set_ (set_ z 2 p1) 3 q1) 4 p2) 5 q2) (16 * 0) 16) 0 2 5 16) 0 4 3 16) (16 * 0) 16).1) (16 * 1) 16) 1 3 5 16) 1 3 5 16))))]) hP hD [0, 1] [] rfl rfl (by decide) (by decide) hk1 hFc hP1 hD1
  clear hPc hDc hFc hP1 hD1 hK1 hk1 hz1 hvm ht
  generalize H1 = H at hP hS ⊢
  have hP : va_P g vwCl [(ma, .inr (6, mo_ th zk zp za zb zx zy sn zf zt zw zm zh x0 y0 dx dy zz cu zo zu)), (zz, .inl (cJ, 192, .inr (.inl (pro_ (pro_ (cl_ ((stl_ (pro_ (pro_ (cl_ (set_ (set_ (set_ (set_ z 2 p1) 3 q1) 4 p2) 5 q2) (16 * 0) 16) 0 2 5 16) 0 4 3 16) (16 * 0) 16).1) (16 * 1) 16) 1 3 5 16) 1 3 5 16))))] H := hP
  have hD : va_D A [(ma, .inr (6, mo_ th zk zp za zb zx zy sn zf zt zw zm zh x0 y0 dx dy zz cu zo zu)), (zz, .inl (cJ, 192, .inr (.inl (pro_ (pro_ (cl_ ((stl_ (pro_ (pro_ (cl_ (set_ (set_ (set_ (set_ z 2 p1) 3 q1) 4 p2) 5 q2) (16 * 0) 16) 0 2 5 16) 0 4 3 16) (16 * 0) 16).1) (16 * 1) 16) 1 3 5 16) 1 3 5 16))))] := hD
  refine lv_aload_n hx hb dX6_between_69 rfl (lv_at hl 0 rfl) ?_
  refine lv_iconst (v := 1) hx hb dX6_between_70 (by decide) ?_
  have hPc := hP.sub (ws' := [(ma, .inr (6, mo_ th zk zp za zb zx zy sn zf zt zw zm zh x0 y0 dx dy zz cu zo zu)), (zz, .inl (cJ, 192, .inr (.inl (pro_ (pro_ (cl_ ((stl_ (pro_ (pro_ (cl_ (set_ (set_ (set_ (set_ z 2 p1) 3 q1) 4 p2) 5 q2) (16 * 0) 16) 0 2 5 16) 0 4 3 16) (16 * 0) 16).1) (16 * 1) 16) 1 3 5 16) 1 3 5 16))))]) [0, 1] rfl
  have hDc := hD.sub (ws' := [(ma, .inr (6, mo_ th zk zp za zb zx zy sn zf zt zw zm zh x0 y0 dx dy zz cu zo zu)), (zz, .inl (cJ, 192, .inr (.inl (pro_ (pro_ (cl_ ((stl_ (pro_ (pro_ (cl_ (set_ (set_ (set_ (set_ z 2 p1) 3 q1) 4 p2) 5 q2) (16 * 0) 16) 0 2 5 16) 0 4 3 16) (16 * 0) 16).1) (16 * 1) 16) 1 3 5 16) 1 3 5 16))))]) [0, 1] (by decide) rfl
  have hFc := va_free (wc := [(ma, .inr (6, mo_ th zk zp za zb zx zy sn zf zt zw zm zh x0 y0 dx dy zz cu zo zu)), (zz, .inl (cJ, 192, .inr (.inl (pro_ (pro_ (cl_ ((stl_ (pro_ (pro_ (cl_ (set_ (set_ (set_ (set_ z 2 p1) 3 q1) 4 p2) 5 q2) (16 * 0) 16) 0 2 5 16) 0 4 3 16) (16 * 0) 16).1) (16 * 1) 16) 1 3 5 16) 1 3 5 16))))]) hD hS hA [0, 1] rfl
  refine va_callv (va_runV (As := [.int 1]) (rest := []) ⟨hx, hb, hml, hown, hts⟩ (kX6_settle l g cI cJ cZ H.size ma th sn x0 y0 dx dy cu zk zp za zb zx zy zf zt zw zm zh zz zo zu (pro_ (pro_ (cl_ ((stl_ (pro_ (pro_ (cl_ (set_ (set_ (set_ (set_ z 2 p1) 3 q1) 4 p2) 5 q2) (16 * 0) 16) 0 2 5 16) 0 4 3 16) (16 * 0) 16).1) (16 * 1) 16) 1 3 5 16) 1 3 5 16) 1 (by decide)) (cwV 1 hts gX6_between_X6_settle rfl rfl rfl (by decide +kernel) ⟨Nat.le_of_ble_eq_true rfl, Nat.le_of_ble_eq_true rfl⟩) (pv_ hK hPc hDc (va_recv hK hPc (ci := 6) (q0 := 0) rfl rfl)) rfl rfl hl.1 rfl (lv_room (Nat.le_of_ble_eq_true rfl)) dX6_between_71 ⟨Nat.zero_le _, Nat.zero_le _⟩) hS (fun q _ h => hFc q h) hFc (fun u t H1 locs ht hvm hw hB hz1 hk1 hS => ?_)
  obtain ⟨hP1, hK1, hD1⟩ := hB
  rw [ht] at hP1
  obtain ⟨hP, hD⟩ := va_join (wr := []) (w1 := [(ma, .inr (6, mo_ th zk zp za zb zx zy sn zf zt zw zm zh x0 y0 dx dy zz cu zo zu)), (zz, .inl (cJ, 192, .inr (.inl ((stl_ (pro_ (pro_ (cl_ ((stl_ (pro_ (pro_ (cl_ (set_ (set_ (set_ (set_ z 2 p1) 3 q1) 4 p2) 5 q2) (16 * 0) 16) 0 2 5 16) 0 4 3 16) (16 * 0) 16).1) (16 * 1) 16) 1 3 5 16) 1 3 5 16) (16 * 1) 16).1))))]) hP hD [0, 1] [] rfl rfl (by decide) (by decide) hk1 hFc hP1 hD1
  clear hPc hDc hFc hP1 hD1 hK1 hk1 hz1 hvm ht
  generalize H1 = H at hP hS ⊢
  have hP : va_P g vwCl [(ma, .inr (6, mo_ th zk zp za zb zx zy sn zf zt zw zm zh x0 y0 dx dy zz cu zo zu)), (zz, .inl (cJ, 192, .inr (.inl ((stl_ (pro_ (pro_ (cl_ ((stl_ (pro_ (pro_ (cl_ (set_ (set_ (set_ (set_ z 2 p1) 3 q1) 4 p2) 5 q2) (16 * 0) 16) 0 2 5 16) 0 4 3 16) (16 * 0) 16).1) (16 * 1) 16) 1 3 5 16) 1 3 5 16) (16 * 1) 16).1))))] H := hP
  have hD : va_D A [(ma, .inr (6, mo_ th zk zp za zb zx zy sn zf zt zw zm zh x0 y0 dx dy zz cu zo zu)), (zz, .inl (cJ, 192, .inr (.inl ((stl_ (pro_ (pro_ (cl_ ((stl_ (pro_ (pro_ (cl_ (set_ (set_ (set_ (set_ z 2 p1) 3 q1) 4 p2) 5 q2) (16 * 0) 16) 0 2 5 16) 0 4 3 16) (16 * 0) 16).1) (16 * 1) 16) 1 3 5 16) 1 3 5 16) (16 * 1) 16).1))))] := hD
  have hP9 := hP.sub (ws' := [(ma, .inr (6, mo_ th zk zp za zb zx zy sn zf zt zw zm zh x0 y0 dx dy zz cu zo zu)), (zz, .inl (cJ, 192, .inr (.inl (btw_ z p1 q1 p2 q2))))]) [0, 1] rfl
  have hD9 := hD.sub (ws' := [(ma, .inr (6, mo_ th zk zp za zb zx zy sn zf zt zw zm zh x0 y0 dx dy zz cu zo zu)), (zz, .inl (cJ, 192, .inr (.inl (btw_ z p1 q1 p2 q2))))]) [0, 1] (by decide) rfl
  exact W.vret hx hb hr (fun t ht hW => ⟨⟨btw_ z p1 q1 p2 q2, rfl, btw_v, by rw [ht]; exact hP9, va_K.moved hW.alike hK, hD9⟩, hS.F ht⟩) hS.2.2 dX6_between_74

set_option maxHeartbeats 1000000 in
set_option maxRecDepth 100000 in
theorem kX6_sgn (l : Launch) (g : va_G) (cI cJ cZ : ClassId) (sz : Nat) (ma : Nat) (th : Int32) (sn : Int32) (x0 : Int64) (y0 : Int64) (dx : Int64) (dy : Int64) (cu : Int32) (zk : Nat) (zp : Nat) (za : Nat) (zb : Nat) (zx : Nat) (zy : Nat) (zf : Nat) (zt : Nat) (zw : Nat) (zm : Nat) (zh : Nat) (zz : Nat) (zo : Nat) (zu : Nat) (z : Nat → Int64) (nm : Int) (dn : Int) (a : Int64) (b : Int64) (hq : gq_ z nm dn) : Met l yX6_sgn wsX6_sgn ({ frames := 2, cells := 0, slots := 0, locals := 51 }) (pc_ g cI cJ cZ [.ref ma, .long a, .long b] [(ma, .inr (6, mo_ th zk zp za zb zx zy sn zf zt zw zm zh x0 y0 dx dy zz cu zo zu)), (zz, .inl (cJ, 192, .inr (.inl z)))] sz) (va_Qi (fun (r : Int32) (z2 : (Nat → Int64)) => r = si_ (a.toInt * dn + b.toInt * nm) ∧ gq_ z2 nm dn) (fun (z2 : (Nat → Int64)) t => wd_ g cI cJ cZ (va_A [(ma, .inr (6, mo_ th zk zp za zb zx zy sn zf zt zw zm zh x0 y0 dx dy zz cu zo zu)), (zz, .inl (cJ, 192, .inr (.inl z)))] sz) [(ma, .inr (6, mo_ th zk zp za zb zx zy sn zf zt zw zm zh x0 y0 dx dy zz cu zo zu)), (zz, .inl (cJ, 192, .inr (.inl z2)))] t) (va_A [(ma, .inr (6, mo_ th zk zp za zb zx zy sn zf zt zw zm zh x0 y0 dx dy zz cu zo zu)), (zz, .inl (cJ, 192, .inr (.inl z)))] sz)) (0) (0) (va_A [(ma, .inr (6, mo_ th zk zp za zb zx zy sn zf zt zw zm zh x0 y0 dx dy zz cu zo zu)), (zz, .inl (cJ, 192, .inr (.inl z)))] sz) := by
  refine Met.ofW (cc := cX6_sgn) (maxL := 5) (ret := (some .int)) (by decide) rfl ?_
  intro p e s m args below meth c s₁ B hml hv
  obtain ⟨rfl, hsz, hP, hK, hD0⟩ := hv
  have hx := B.exec
  have hb := B.bytes
  have hr := B.returns
  have hts := atoms_spec (ws := wsX6_sgn) B.pre
  have hown : s.vm.findClass RX6 = some m.cls := findClass_of_methodNamed B.named
  have hlocks := B.notSynchronized
  subst hsz
  have hD := hD0.self (sz := s.heap.size)
  generalize hAe : va_A [(ma, .inr (6, mo_ th zk zp za zb zx zy sn zf zt zw zm zh x0 y0 dx dy zz cu zo zu)), (zz, .inl (cJ, 192, .inr (.inl z)))] s.heap.size = A at hD ⊢
  have hA : ∀ q : Nat, s.heap.size ≤ q → A q := fun q h => by rw [← hAe]; exact Or.inr h
  have hS : va_S A s.heap s.heap [] := va_S.rf
  have hP : va_P g vwCl [(ma, .inr (6, mo_ th zk zp za zb zx zy sn zf zt zw zm zh x0 y0 dx dy zz cu zo zu)), (zz, .inl (cJ, 192, .inr (.inl z)))] s.heap := hP
  have hl := lv_entry ([.ref ma, .long a, .long b]) (n := 5) (Nat.le_of_ble_eq_true rfl)
  rw [lg_entry_eq]
  generalize (lg_sl ([.ref ma, .long a, .long b]) ++ List.replicate (5 - (lg_sl ([.ref ma, .long a, .long b])).length) Slot.unset).toArray = ls at hl ⊢
  have hl : lv_has ls 5 [(0, .ref ma), (1, .long a), (3, .long b)] := hl
  have hH0 : s.heap = s.heap := rfl
  refine lv_aload_n hx hb dX6_sgn_0 rfl (lv_at hl 0 rfl) ?_
  refine lv_bipush (v := 6) hx hb dX6_sgn_1 (by decide) ?_
  refine lv_lload_n hx hb dX6_sgn_3 rfl (lv_at hl 1 rfl) ?_
  have hPc := hP.sub (ws' := [(ma, .inr (6, mo_ th zk zp za zb zx zy sn zf zt zw zm zh x0 y0 dx dy zz cu zo zu)), (zz, .inl (cJ, 192, .inr (.inl z)))]) [0, 1] rfl
  have hDc := hD.sub (ws' := [(ma, .inr (6, mo_ th zk zp za zb zx zy sn zf zt zw zm zh x0 y0 dx dy zz cu zo zu)), (zz, .inl (cJ, 192, .inr (.inl z)))]) [0, 1] (by decide) rfl
  have hFc := va_free (wc := [(ma, .inr (6, mo_ th zk zp za zb zx zy sn zf zt zw zm zh x0 y0 dx dy zz cu zo zu)), (zz, .inl (cJ, 192, .inr (.inl z)))]) hD hS hA [0, 1] rfl
  refine va_callv (va_runV (As := [.int 6, .long a]) (rest := []) ⟨hx, hb, hml, hown, hts⟩ (kX6_set l g cI cJ cZ s.heap.size ma th sn x0 y0 dx dy cu zk zp za zb zx zy zf zt zw zm zh zz zo zu z 6 a (by decide)) (cwV 2 hts gX6_sgn_X6_set rfl rfl rfl (by decide +kernel) ⟨Nat.le_of_ble_eq_true rfl, Nat.le_of_ble_eq_true rfl⟩) (pv_ hK hPc hDc (va_recv hK hPc (ci := 6) (q0 := 0) rfl rfl)) rfl rfl hl.1 rfl (lv_room (Nat.le_of_ble_eq_true rfl)) dX6_sgn_4 ⟨Nat.zero_le _, Nat.zero_le _⟩) hS (fun q _ h => hFc q h) hFc (fun u t H1 locs ht hvm hw hB hz1 hk1 hS => ?_)
  obtain ⟨hP1, hK1, hD1⟩ := hB
  rw [ht] at hP1
  obtain ⟨hP, hD⟩ := va_join (wr := []) (w1 := [(ma, .inr (6, mo_ th zk zp za zb zx zy sn zf zt zw zm zh x0 y0 dx dy zz cu zo zu)), (zz, .inl (cJ, 192, .inr (.inl (set_ z 6 a))))]) hP hD [0, 1] [] rfl rfl (by decide) (by decide) hk1 hFc hP1 hD1
  clear hPc hDc hFc hP1 hD1 hK1 hk1 hz1 hvm ht
  generalize H1 = H at hP hS ⊢
  have hP : va_P g vwCl [(ma, .inr (6, mo_ th zk zp za zb zx zy sn zf zt zw zm zh x0 y0 dx dy zz cu zo zu)), (zz, .inl (cJ, 192, .inr (.inl (set_ z 6 a))))] H := hP
  have hD : va_D A [(ma, .inr (6, mo_ th zk zp za zb zx zy sn zf zt zw zm zh x0 y0 dx dy zz cu zo zu)), (zz, .inl (cJ, 192, .inr (.inl (set_ z 6 a))))] := hD
  refine lv_aload_n hx hb dX6_sgn_7 rfl (lv_at hl 0 rfl) ?_
  refine lv_bipush (v := 7) hx hb dX6_sgn_8 (by decide) ?_
  refine lv_lload_n hx hb dX6_sgn_10 rfl (lv_at hl 2 rfl) ?_
  have hPc := hP.sub (ws' := [(ma, .inr (6, mo_ th zk zp za zb zx zy sn zf zt zw zm zh x0 y0 dx dy zz cu zo zu)), (zz, .inl (cJ, 192, .inr (.inl (set_ z 6 a))))]) [0, 1] rfl
  have hDc := hD.sub (ws' := [(ma, .inr (6, mo_ th zk zp za zb zx zy sn zf zt zw zm zh x0 y0 dx dy zz cu zo zu)), (zz, .inl (cJ, 192, .inr (.inl (set_ z 6 a))))]) [0, 1] (by decide) rfl
  have hFc := va_free (wc := [(ma, .inr (6, mo_ th zk zp za zb zx zy sn zf zt zw zm zh x0 y0 dx dy zz cu zo zu)), (zz, .inl (cJ, 192, .inr (.inl (set_ z 6 a))))]) hD hS hA [0, 1] rfl
  refine va_callv (va_runV (As := [.int 7, .long b]) (rest := []) ⟨hx, hb, hml, hown, hts⟩ (kX6_set l g cI cJ cZ H.size ma th sn x0 y0 dx dy cu zk zp za zb zx zy zf zt zw zm zh zz zo zu (set_ z 6 a) 7 b (by decide)) (cwV 2 hts gX6_sgn_X6_set rfl rfl rfl (by decide +kernel) ⟨Nat.le_of_ble_eq_true rfl, Nat.le_of_ble_eq_true rfl⟩) (pv_ hK hPc hDc (va_recv hK hPc (ci := 6) (q0 := 0) rfl rfl)) rfl rfl hl.1 rfl (lv_room (Nat.le_of_ble_eq_true rfl)) dX6_sgn_11 ⟨Nat.zero_le _, Nat.zero_le _⟩) hS (fun q _ h => hFc q h) hFc (fun u t H1 locs ht hvm hw hB hz1 hk1 hS => ?_)
  obtain ⟨hP1, hK1, hD1⟩ := hB
  rw [ht] at hP1
  obtain ⟨hP, hD⟩ := va_join (wr := []) (w1 := [(ma, .inr (6, mo_ th zk zp za zb zx zy sn zf zt zw zm zh x0 y0 dx dy zz cu zo zu)), (zz, .inl (cJ, 192, .inr (.inl (set_ (set_ z 6 a) 7 b))))]) hP hD [0, 1] [] rfl rfl (by decide) (by decide) hk1 hFc hP1 hD1
  clear hPc hDc hFc hP1 hD1 hK1 hk1 hz1 hvm ht
  generalize H1 = H at hP hS ⊢
  have hP : va_P g vwCl [(ma, .inr (6, mo_ th zk zp za zb zx zy sn zf zt zw zm zh x0 y0 dx dy zz cu zo zu)), (zz, .inl (cJ, 192, .inr (.inl (set_ (set_ z 6 a) 7 b))))] H := hP
  have hD : va_D A [(ma, .inr (6, mo_ th zk zp za zb zx zy sn zf zt zw zm zh x0 y0 dx dy zz cu zo zu)), (zz, .inl (cJ, 192, .inr (.inl (set_ (set_ z 6 a) 7 b))))] := hD
  refine lv_aload_n hx hb dX6_sgn_14 rfl (lv_at hl 0 rfl) ?_
  refine lv_bipush (v := 8) hx hb dX6_sgn_15 (by decide) ?_
  have hPc := hP.sub (ws' := [(ma, .inr (6, mo_ th zk zp za zb zx zy sn zf zt zw zm zh x0 y0 dx dy zz cu zo zu)), (zz, .inl (cJ, 192, .inr (.inl (set_ (set_ z 6 a) 7 b))))]) [0, 1] rfl
  have hDc := hD.sub (ws' := [(ma, .inr (6, mo_ th zk zp za zb zx zy sn zf zt zw zm zh x0 y0 dx dy zz cu zo zu)), (zz, .inl (cJ, 192, .inr (.inl (set_ (set_ z 6 a) 7 b))))]) [0, 1] (by decide) rfl
  have hFc := va_free (wc := [(ma, .inr (6, mo_ th zk zp za zb zx zy sn zf zt zw zm zh x0 y0 dx dy zz cu zo zu)), (zz, .inl (cJ, 192, .inr (.inl (set_ (set_ z 6 a) 7 b))))]) hD hS hA [0, 1] rfl
  refine va_callv (va_runV (As := [.int 8]) (rest := []) ⟨hx, hb, hml, hown, hts⟩ (kX6_clear l g cI cJ cZ H.size ma th sn x0 y0 dx dy cu zk zp za zb zx zy zf zt zw zm zh zz zo zu (set_ (set_ z 6 a) 7 b) 8 (by decide)) (cwV 1 hts gX6_sgn_X6_clear rfl rfl rfl (by decide +kernel) ⟨Nat.le_of_ble_eq_true rfl, Nat.le_of_ble_eq_true rfl⟩) (pv_ hK hPc hDc (va_recv hK hPc (ci := 6) (q0 := 0) rfl rfl)) rfl rfl hl.1 rfl (lv_room (Nat.le_of_ble_eq_true rfl)) dX6_sgn_17 ⟨Nat.zero_le _, Nat.zero_le _⟩) hS (fun q _ h => hFc q h) hFc (fun u t H1 locs ht hvm hw hB hz1 hk1 hS => ?_)
  obtain ⟨hP1, hK1, hD1⟩ := hB
  rw [ht] at hP1
  obtain ⟨hP, hD⟩ := va_join (wr := []) (w1 := [(ma, .inr (6, mo_ th zk zp za zb zx zy sn zf zt zw zm zh x0 y0 dx dy zz cu zo zu)), (zz, .inl (cJ, 192, .inr (.inl (cl_ (set_ (set_ z 6 a) 7 b) (16 * 8) 16))))]) hP hD [0, 1] [] rfl rfl (by decide) (by decide) hk1 hFc hP1 hD1
  clear hPc hDc hFc hP1 hD1 hK1 hk1 hz1 hvm ht
  generalize H1 = H at hP hS ⊢
  have hP : va_P g vwCl [(ma, .inr (6, mo_ th zk zp za zb zx zy sn zf zt zw zm zh x0 y0 dx dy zz cu zo zu)), (zz, .inl (cJ, 192, .inr (.inl (cl_ (set_ (set_ z 6 a) 7 b) (16 * 8) 16))))] H := hP
  have hD : va_D A [(ma, .inr (6, mo_ th zk zp za zb zx zy sn zf zt zw zm zh x0 y0 dx dy zz cu zo zu)), (zz, .inl (cJ, 192, .inr (.inl (cl_ (set_ (set_ z 6 a) 7 b) (16 * 8) 16))))] := hD
  refine lv_aload_n hx hb dX6_sgn_20 rfl (lv_at hl 0 rfl) ?_
  refine lv_bipush (v := 8) hx hb dX6_sgn_21 (by decide) ?_
  refine lv_bipush (v := 6) hx hb dX6_sgn_23 (by decide) ?_
  refine lv_iconst (v := 1) hx hb dX6_sgn_25 (by decide) ?_
  have hPc := hP.sub (ws' := [(ma, .inr (6, mo_ th zk zp za zb zx zy sn zf zt zw zm zh x0 y0 dx dy zz cu zo zu)), (zz, .inl (cJ, 192, .inr (.inl (cl_ (set_ (set_ z 6 a) 7 b) (16 * 8) 16))))]) [0, 1] rfl
  have hDc := hD.sub (ws' := [(ma, .inr (6, mo_ th zk zp za zb zx zy sn zf zt zw zm zh x0 y0 dx dy zz cu zo zu)), (zz, .inl (cJ, 192, .inr (.inl (cl_ (set_ (set_ z 6 a) 7 b) (16 * 8) 16))))]) [0, 1] (by decide) rfl
  have hFc := va_free (wc := [(ma, .inr (6, mo_ th zk zp za zb zx zy sn zf zt zw zm zh x0 y0 dx dy zz cu zo zu)), (zz, .inl (cJ, 192, .inr (.inl (cl_ (set_ (set_ z 6 a) 7 b) (16 * 8) 16))))]) hD hS hA [0, 1] rfl
  refine va_callv (va_runV (As := [.int 8, .int 6, .int 1]) (rest := []) ⟨hx, hb, hml, hown, hts⟩ (kX6_product l g cI cJ cZ H.size ma th sn x0 y0 dx dy cu zk zp za zb zx zy zf zt zw zm zh zz zo zu (cl_ (set_ (set_ z 6 a) 7 b) (16 * 8) 16) 8 6 1 (by decide) (by decide) (by decide)) (cwV 3 hts gX6_sgn_X6_product rfl rfl rfl (by decide +kernel) ⟨Nat.le_of_ble_eq_true rfl, Nat.le_of_ble_eq_true rfl⟩) (pv_ hK hPc hDc (va_recv hK hPc (ci := 6) (q0 := 0) rfl rfl)) rfl rfl hl.1 rfl (lv_room (Nat.le_of_ble_eq_true rfl)) dX6_sgn_26 ⟨Nat.zero_le _, Nat.zero_le _⟩) hS (fun q _ h => hFc q h) hFc (fun u t H1 locs ht hvm hw hB hz1 hk1 hS => ?_)
  obtain ⟨hP1, hK1, hD1⟩ := hB
  rw [ht] at hP1
  obtain ⟨hP, hD⟩ := va_join (wr := []) (w1 := [(ma, .inr (6, mo_ th zk zp za zb zx zy sn zf zt zw zm zh x0 y0 dx dy zz cu zo zu)), (zz, .inl (cJ, 192, .inr (.inl (pro_ (cl_ (set_ (set_ z 6 a) 7 b) (16 * 8) 16) 8 6 1 16))))]) hP hD [0, 1] [] rfl rfl (by decide) (by decide) hk1 hFc hP1 hD1
  clear hPc hDc hFc hP1 hD1 hK1 hk1 hz1 hvm ht
  generalize H1 = H at hP hS ⊢
  have hP : va_P g vwCl [(ma, .inr (6, mo_ th zk zp za zb zx zy sn zf zt zw zm zh x0 y0 dx dy zz cu zo zu)), (zz, .inl (cJ, 192, .inr (.inl (pro_ (cl_ (set_ (set_ z 6 a) 7 b) (16 * 8) 16) 8 6 1 16))))] H := hP
  have hD : va_D A [(ma, .inr (6, mo_ th zk zp za zb zx zy sn zf zt zw zm zh x0 y0 dx dy zz cu zo zu)), (zz, .inl (cJ, 192, .inr (.inl (pro_ (cl_ (set_ (set_ z 6 a) 7 b) (16 * 8) 16) 8 6 1 16))))] := hD
  refine lv_aload_n hx hb dX6_sgn_29 rfl (lv_at hl 0 rfl) ?_
  refine lv_bipush (v := 8) hx hb dX6_sgn_30 (by decide) ?_
  refine lv_bipush (v := 7) hx hb dX6_sgn_32 (by decide) ?_
  refine lv_iconst (v := 0) hx hb dX6_sgn_34 (by decide) ?_
  have hPc := hP.sub (ws' := [(ma, .inr (6, mo_ th zk zp za zb zx zy sn zf zt zw zm zh x0 y0 dx dy zz cu zo zu)), (zz, .inl (cJ, 192, .inr (.inl (pro_ (cl_ (set_ (set_ z 6 a) 7 b) (16 * 8) 16) 8 6 1 16))))]) [0, 1] rfl
  have hDc := hD.sub (ws' := [(ma, .inr (6, mo_ th zk zp za zb zx zy sn zf zt zw zm zh x0 y0 dx dy zz cu zo zu)), (zz, .inl (cJ, 192, .inr (.inl (pro_ (cl_ (set_ (set_ z 6 a) 7 b) (16 * 8) 16) 8 6 1 16))))]) [0, 1] (by decide) rfl
  have hFc := va_free (wc := [(ma, .inr (6, mo_ th zk zp za zb zx zy sn zf zt zw zm zh x0 y0 dx dy zz cu zo zu)), (zz, .inl (cJ, 192, .inr (.inl (pro_ (cl_ (set_ (set_ z 6 a) 7 b) (16 * 8) 16) 8 6 1 16))))]) hD hS hA [0, 1] rfl
  refine va_callv (va_runV (As := [.int 8, .int 7, .int 0]) (rest := []) ⟨hx, hb, hml, hown, hts⟩ (kX6_product l g cI cJ cZ H.size ma th sn x0 y0 dx dy cu zk zp za zb zx zy zf zt zw zm zh zz zo zu (pro_ (cl_ (set_ (set_ z 6 a) 7 b) (16 * 8) 16) 8 6 1 16) 8 7 0 (by decide) (by decide) (by decide)) (cwV 3 hts gX6_sgn_X6_product rfl rfl rfl (by decide +kernel) ⟨Nat.le_of_ble_eq_true rfl, Nat.le_of_ble_eq_true rfl⟩) (pv_ hK hPc hDc (va_recv hK hPc (ci := 6) (q0 := 0) rfl rfl)) rfl rfl hl.1 rfl (lv_room (Nat.le_of_ble_eq_true rfl)) dX6_sgn_35 ⟨Nat.zero_le _, Nat.zero_le _⟩) hS (fun q _ h => hFc q h) hFc (fun u t H1 locs ht hvm hw hB hz1 hk1 hS => ?_)
  obtain ⟨hP1, hK1, hD1⟩ := hB
  rw [ht] at hP1
  obtain ⟨hP, hD⟩ := va_join (wr := []) (w1 := [(ma, .inr (6, mo_ th zk zp za zb zx zy sn zf zt zw zm zh x0 y0 dx dy zz cu zo zu)), (zz, .inl (cJ, 192, .inr (.inl (pro_ (pro_ (cl_ (set_ (set_ z 6 a) 7 b) (16 * 8) 16) 8 6 1 16) 8 7 0 16))))]) hP hD [0, 1] [] rfl rfl (by decide) (by decide) hk1 hFc hP1 hD1
  clear hPc hDc hFc hP1 hD1 hK1 hk1 hz1 hvm ht
  generalize H1 = H at hP hS ⊢
  have hP : va_P g vwCl [(ma, .inr (6, mo_ th zk zp za zb zx zy sn zf zt zw zm zh x0 y0 dx dy zz cu zo zu)), (zz, .inl (cJ, 192, .inr (.inl (pro_ (pro_ (cl_ (set_ (set_ z 6 a) 7 b) (16 * 8) 16) 8 6 1 16) 8 7 0 16))))] H := hP
  have hD : va_D A [(ma, .inr (6, mo_ th zk zp za zb zx zy sn zf zt zw zm zh x0 y0 dx dy zz cu zo zu)), (zz, .inl (cJ, 192, .inr (.inl (pro_ (pro_ (cl_ (set_ (set_ z 6 a) 7 b) (16 * 8) 16) 8 6 1 16) 8 7 0 16))))] := hD
  refine lv_aload_n hx hb dX6_sgn_38 rfl (lv_at hl 0 rfl) ?_
  refine lv_bipush (v := 8) hx hb dX6_sgn_39 (by decide) ?_
  have hPc := hP.sub (ws' := [(ma, .inr (6, mo_ th zk zp za zb zx zy sn zf zt zw zm zh x0 y0 dx dy zz cu zo zu)), (zz, .inl (cJ, 192, .inr (.inl (pro_ (pro_ (cl_ (set_ (set_ z 6 a) 7 b) (16 * 8) 16) 8 6 1 16) 8 7 0 16))))]) [0, 1] rfl
  have hDc := hD.sub (ws' := [(ma, .inr (6, mo_ th zk zp za zb zx zy sn zf zt zw zm zh x0 y0 dx dy zz cu zo zu)), (zz, .inl (cJ, 192, .inr (.inl (pro_ (pro_ (cl_ (set_ (set_ z 6 a) 7 b) (16 * 8) 16) 8 6 1 16) 8 7 0 16))))]) [0, 1] (by decide) rfl
  have hFc := va_free (wc := [(ma, .inr (6, mo_ th zk zp za zb zx zy sn zf zt zw zm zh x0 y0 dx dy zz cu zo zu)), (zz, .inl (cJ, 192, .inr (.inl (pro_ (pro_ (cl_ (set_ (set_ z 6 a) 7 b) (16 * 8) 16) 8 6 1 16) 8 7 0 16))))]) hD hS hA [0, 1] rfl
  refine va_callv (va_runV (As := [.int 8]) (rest := []) ⟨hx, hb, hml, hown, hts⟩ (kX6_settle l g cI cJ cZ H.size ma th sn x0 y0 dx dy cu zk zp za zb zx zy zf zt zw zm zh zz zo zu (pro_ (pro_ (cl_ (set_ (set_ z 6 a) 7 b) (16 * 8) 16) 8 6 1 16) 8 7 0 16) 8 (by decide)) (cwV 1 hts gX6_sgn_X6_settle rfl rfl rfl (by decide +kernel) ⟨Nat.le_of_ble_eq_true rfl, Nat.le_of_ble_eq_true rfl⟩) (pv_ hK hPc hDc (va_recv hK hPc (ci := 6) (q0 := 0) rfl rfl)) rfl rfl hl.1 rfl (lv_room (Nat.le_of_ble_eq_true rfl)) dX6_sgn_41 ⟨Nat.zero_le _, Nat.zero_le _⟩) hS (fun q _ h => hFc q h) hFc (fun u t H1 locs ht hvm hw hB hz1 hk1 hS => ?_)
  obtain ⟨hP1, hK1, hD1⟩ := hB
  rw [ht] at hP1
  obtain ⟨hP, hD⟩ := va_join (wr := []) (w1 := [(ma, .inr (6, mo_ th zk zp za zb zx zy sn zf zt zw zm zh x0 y0 dx dy zz cu zo zu)), (zz, .inl (cJ, 192, .inr (.inl ((stl_ (pro_ (pro_ (cl_ (set_ (set_ z 6 a) 7 b) (16 * 8) 16) 8 6 1 16) 8 7 0 16) (16 * 8) 16).1))))]) hP hD [0, 1] [] rfl rfl (by decide) (by decide) hk1 hFc hP1 hD1
  clear hPc hDc hFc hP1 hD1 hK1 hk1 hz1 hvm ht
  generalize H1 = H at hP hS ⊢
  have hP : va_P g vwCl [(ma, .inr (6, mo_ th zk zp za zb zx zy sn zf zt zw zm zh x0 y0 dx dy zz cu zo zu)), (zz, .inl (cJ, 192, .inr (.inl ((stl_ (pro_ (pro_ (cl_ (set_ (set_ z 6 a) 7 b) (16 * 8) 16) 8 6 1 16) 8 7 0 16) (16 * 8) 16).1))))] H := hP
  have hD : va_D A [(ma, .inr (6, mo_ th zk zp za zb zx zy sn zf zt zw zm zh x0 y0 dx dy zz cu zo zu)), (zz, .inl (cJ, 192, .inr (.inl ((stl_ (pro_ (pro_ (cl_ (set_ (set_ z 6 a) 7 b) (16 * 8) 16) 8 6 1 16) 8 7 0 16) (16 * 8) 16).1))))] := hD
  refine lv_aload_n hx hb dX6_sgn_44 rfl (lv_at hl 0 rfl) ?_
  refine lv_bipush (v := 8) hx hb dX6_sgn_45 (by decide) ?_
  have hPc := hP.sub (ws' := [(ma, .inr (6, mo_ th zk zp za zb zx zy sn zf zt zw zm zh x0 y0 dx dy zz cu zo zu)), (zz, .inl (cJ, 192, .inr (.inl ((stl_ (pro_ (pro_ (cl_ (set_ (set_ z 6 a) 7 b) (16 * 8) 16) 8 6 1 16) 8 7 0 16) (16 * 8) 16).1))))]) [0, 1] rfl
  have hDc := hD.sub (ws' := [(ma, .inr (6, mo_ th zk zp za zb zx zy sn zf zt zw zm zh x0 y0 dx dy zz cu zo zu)), (zz, .inl (cJ, 192, .inr (.inl ((stl_ (pro_ (pro_ (cl_ (set_ (set_ z 6 a) 7 b) (16 * 8) 16) 8 6 1 16) 8 7 0 16) (16 * 8) 16).1))))]) [0, 1] (by decide) rfl
  have hFc := va_free (wc := [(ma, .inr (6, mo_ th zk zp za zb zx zy sn zf zt zw zm zh x0 y0 dx dy zz cu zo zu)), (zz, .inl (cJ, 192, .inr (.inl ((stl_ (pro_ (pro_ (cl_ (set_ (set_ z 6 a) 7 b) (16 * 8) 16) 8 6 1 16) 8 7 0 16) (16 * 8) 16).1))))]) hD hS hA [0, 1] rfl
  refine va_calli (va_runV (As := [.int 8]) (rest := []) ⟨hx, hb, hml, hown, hts⟩ (kX6_signOf l g cI cJ cZ H.size ma th sn x0 y0 dx dy cu zk zp za zb zx zy zf zt zw zm zh zz zo zu ((stl_ (pro_ (pro_ (cl_ (set_ (set_ z 6 a) 7 b) (16 * 8) 16) 8 6 1 16) 8 7 0 16) (16 * 8) 16).1) 8 (by decide)) (cwV 1 hts gX6_sgn_X6_signOf rfl rfl rfl (by decide +kernel) ⟨Nat.le_of_ble_eq_true rfl, Nat.le_of_ble_eq_true rfl⟩) (pv_ hK hPc hDc (va_recv hK hPc (ci := 6) (q0 := 0) rfl rfl)) rfl rfl hl.1 rfl (lv_room (Nat.le_of_ble_eq_true rfl)) dX6_sgn_47 ⟨Nat.zero_le _, Nat.zero_le _⟩) hS (fun q _ h => hFc q h) hFc (fun r1 u t H1 locs ht hvm hw1 hB hz1 hk1 hS => ?_)
  obtain ⟨hP1, hK1, hD1⟩ := hB
  rw [ht] at hP1
  obtain ⟨hP, hD⟩ := va_join (wr := []) (w1 := [(ma, .inr (6, mo_ th zk zp za zb zx zy sn zf zt zw zm zh x0 y0 dx dy zz cu zo zu)), (zz, .inl (cJ, 192, .inr (.inl ((stl_ (pro_ (pro_ (cl_ (set_ (set_ z 6 a) 7 b) (16 * 8) 16) 8 6 1 16) 8 7 0 16) (16 * 8) 16).1))))]) hP hD [0, 1] [] rfl rfl (by decide) (by decide) hk1 hFc hP1 hD1
  clear hPc hDc hFc hP1 hD1 hK1 hk1 hz1 hvm ht
  generalize H1 = H at hP hS ⊢
  have hP : va_P g vwCl [(ma, .inr (6, mo_ th zk zp za zb zx zy sn zf zt zw zm zh x0 y0 dx dy zz cu zo zu)), (zz, .inl (cJ, 192, .inr (.inl ((stl_ (pro_ (pro_ (cl_ (set_ (set_ z 6 a) 7 b) (16 * 8) 16) 8 6 1 16) 8 7 0 16) (16 * 8) 16).1))))] H := hP
  have hD : va_D A [(ma, .inr (6, mo_ th zk zp za zb zx zy sn zf zt zw zm zh x0 y0 dx dy zz cu zo zu)), (zz, .inl (cJ, 192, .inr (.inl ((stl_ (pro_ (pro_ (cl_ (set_ (set_ z 6 a) 7 b) (16 * 8) 16) 8 6 1 16) 8 7 0 16) (16 * 8) 16).1))))] := hD
  have hP9 := hP.sub (ws' := [(ma, .inr (6, mo_ th zk zp za zb zx zy sn zf zt zw zm zh x0 y0 dx dy zz cu zo zu)), (zz, .inl (cJ, 192, .inr (.inl (sgz_ z a b))))]) [0, 1] rfl
  have hD9 := hD.sub (ws' := [(ma, .inr (6, mo_ th zk zp za zb zx zy sn zf zt zw zm zh x0 y0 dx dy zz cu zo zu)), (zz, .inl (cJ, 192, .inr (.inl (sgz_ z a b))))]) [0, 1] (by decide) rfl
  exact W.iret (v := r1) hx hb hr (fun t ht hW => ⟨⟨r1, sgz_ z a b, rfl, ⟨by rw [hw1]; exact (sgz_v hq).2, (sgz_v hq).1⟩, by rw [ht]; exact hP9, va_K.moved hW.alike hK, hD9⟩, hS.F ht⟩) hS.2.2 dX6_sgn_50

theorem ikX6_overX_X6 : ∀ w ∈ wsX60, w ∈ wsX6_overX := by decide +kernel
set_option maxHeartbeats 1000000 in
set_option maxRecDepth 100000 in
theorem kX6_overX (l : Launch) (g : va_G) (cI cJ cZ : ClassId) (sz : Nat) (ma : Nat) (th : Int32) (sn : Int32) (x0 : Int64) (y0 : Int64) (dx : Int64) (dy : Int64) (cu : Int32) (zk : Nat) (zp : Nat) (za : Nat) (zb : Nat) (zx : Nat) (zy : Nat) (zf : Nat) (zt : Nat) (zw : Nat) (zm : Nat) (zh : Nat) (zz : Nat) (zo : Nat) (zu : Nat) (z : Nat → Int64) (nm : Int) (dn : Int) (v : Int64) (hq : gq_ z nm dn) : Met l yX6_overX wsX6_overX ({ frames := 3, cells := 0, slots := 0, locals := 75 }) (pc_ g cI cJ cZ [.ref ma, .long v] [(ma, .inr (6, mo_ th zk zp za zb zx zy sn zf zt zw zm zh x0 y0 dx dy zz cu zo zu)), (zz, .inl (cJ, 192, .inr (.inl z)))] sz) (va_Qi (fun (r : Int32) (z2 : (Nat → Int64)) => r = ovx_ x0 dx nm dn v ∧ gq_ z2 nm dn) (fun (z2 : (Nat → Int64)) t => wd_ g cI cJ cZ (va_A [(ma, .inr (6, mo_ th zk zp za zb zx zy sn zf zt zw zm zh x0 y0 dx dy zz cu zo zu)), (zz, .inl (cJ, 192, .inr (.inl z)))] sz) [(ma, .inr (6, mo_ th zk zp za zb zx zy sn zf zt zw zm zh x0 y0 dx dy zz cu zo zu)), (zz, .inl (cJ, 192, .inr (.inl z2)))] t) (va_A [(ma, .inr (6, mo_ th zk zp za zb zx zy sn zf zt zw zm zh x0 y0 dx dy zz cu zo zu)), (zz, .inl (cJ, 192, .inr (.inl z)))] sz)) (0) (0) (va_A [(ma, .inr (6, mo_ th zk zp za zb zx zy sn zf zt zw zm zh x0 y0 dx dy zz cu zo zu)), (zz, .inl (cJ, 192, .inr (.inl z)))] sz) := by
  refine Met.ofW (cc := cX6_overX) (maxL := 3) (ret := (some .int)) (by decide) rfl ?_
  intro p e s m args below meth c s₁ B hml hv
  obtain ⟨rfl, hsz, hP, hK, hD0⟩ := hv
  have hx := B.exec
  have hb := B.bytes
  have hr := B.returns
  have hts := atoms_spec (ws := wsX6_overX) B.pre
  have hown : s.vm.findClass RX6 = some m.cls := findClass_of_methodNamed B.named
  have hlocks := B.notSynchronized
  subst hsz
  have hD := hD0.self (sz := s.heap.size)
  generalize hAe : va_A [(ma, .inr (6, mo_ th zk zp za zb zx zy sn zf zt zw zm zh x0 y0 dx dy zz cu zo zu)), (zz, .inl (cJ, 192, .inr (.inl z)))] s.heap.size = A at hD ⊢
  have hA : ∀ q : Nat, s.heap.size ≤ q → A q := fun q h => by rw [← hAe]; exact Or.inr h
  have hS : va_S A s.heap s.heap [] := va_S.rf
  have hP : va_P g vwCl [(ma, .inr (6, mo_ th zk zp za zb zx zy sn zf zt zw zm zh x0 y0 dx dy zz cu zo zu)), (zz, .inl (cJ, 192, .inr (.inl z)))] s.heap := hP
  have hl := lv_entry ([.ref ma, .long v]) (n := 3) (Nat.le_of_ble_eq_true rfl)
  rw [lg_entry_eq]
  generalize (lg_sl ([.ref ma, .long v]) ++ List.replicate (3 - (lg_sl ([.ref ma, .long v])).length) Slot.unset).toArray = ls at hl ⊢
  have hl : lv_has ls 3 [(0, .ref ma), (1, .long v)] := hl
  have hH0 : s.heap = s.heap := rfl
  have hiX6 := ikX6_overX_X6
  refine lv_aload_n hx hb dX6_overX_0 rfl (lv_at hl 0 rfl) ?_
  refine lv_aload_n hx hb dX6_overX_1 rfl (lv_at hl 0 rfl) ?_
  refine va_get (D := g) (ci := 6) (v := .long x0) (C := RX6) (T := TX6) (N := 21) hx hb hts hiX6 hown hK hP 0 rfl rfl 13 (by decide) (hts (.fieldLink RX6 104 "ShapeRelatorModel" "x0" "J") (List.mem_of_getElem? (i := 1) rfl)) (fun _ h9 => h9) rfl dX6_overX_2 ?_
  refine lv_lload_n hx hb dX6_overX_5 rfl (lv_at hl 1 rfl) ?_
  refine lv_lsub hx hb dX6_overX_6 ?_
  refine lv_aload_n hx hb dX6_overX_7 rfl (lv_at hl 0 rfl) ?_
  refine va_get (D := g) (ci := 6) (v := .long dx) (C := RX6) (T := TX6) (N := 21) hx hb hts hiX6 hown hK hP 0 rfl rfl 15 (by decide) (hts (.fieldLink RX6 111 "ShapeRelatorModel" "dx" "J") (List.mem_of_getElem? (i := 2) rfl)) (fun _ h9 => h9) rfl dX6_overX_8 ?_
  have hPc := hP.sub (ws' := [(ma, .inr (6, mo_ th zk zp za zb zx zy sn zf zt zw zm zh x0 y0 dx dy zz cu zo zu)), (zz, .inl (cJ, 192, .inr (.inl z)))]) [0, 1] rfl
  have hDc := hD.sub (ws' := [(ma, .inr (6, mo_ th zk zp za zb zx zy sn zf zt zw zm zh x0 y0 dx dy zz cu zo zu)), (zz, .inl (cJ, 192, .inr (.inl z)))]) [0, 1] (by decide) rfl
  have hFc := va_free (wc := [(ma, .inr (6, mo_ th zk zp za zb zx zy sn zf zt zw zm zh x0 y0 dx dy zz cu zo zu)), (zz, .inl (cJ, 192, .inr (.inl z)))]) hD hS hA [0, 1] rfl
  refine va_calli (va_runV (As := [.long (x0 - v), .long dx]) (rest := []) ⟨hx, hb, hml, hown, hts⟩ (kX6_sgn l g cI cJ cZ s.heap.size ma th sn x0 y0 dx dy cu zk zp za zb zx zy zf zt zw zm zh zz zo zu z nm dn (x0 - v) dx hq) (cwV 2 hts gX6_overX_X6_sgn rfl rfl rfl (by decide +kernel) ⟨Nat.le_of_ble_eq_true rfl, Nat.le_of_ble_eq_true rfl⟩) (pv_ hK hPc hDc (va_recv hK hPc (ci := 6) (q0 := 0) rfl rfl)) rfl rfl hl.1 rfl (lv_room (Nat.le_of_ble_eq_true rfl)) dX6_overX_11 ⟨Nat.zero_le _, Nat.zero_le _⟩) hS (fun q _ h => hFc q h) hFc (fun r1 u t H1 locs ht hvm wza1 hB hz1 hk1 hS => ?_)
  obtain ⟨za1, rfl⟩ : ∃ z, z = u := ⟨_, rfl⟩
  obtain ⟨hP1, hK1, hD1⟩ := hB
  rw [ht] at hP1
  obtain ⟨hP, hD⟩ := va_join (wr := []) (w1 := [(ma, .inr (6, mo_ th zk zp za zb zx zy sn zf zt zw zm zh x0 y0 dx dy zz cu zo zu)), (zz, .inl (cJ, 192, .inr (.inl za1)))]) hP hD [0, 1] [] rfl rfl (by decide) (by decide) hk1 hFc hP1 hD1
  clear hPc hDc hFc hP1 hD1 hK1 hk1 hz1 hvm ht
  generalize H1 = H at hP hS ⊢
  have hP : va_P g vwCl [(ma, .inr (6, mo_ th zk zp za zb zx zy sn zf zt zw zm zh x0 y0 dx dy zz cu zo zu)), (zz, .inl (cJ, 192, .inr (.inl za1)))] H := hP
  have hD : va_D A [(ma, .inr (6, mo_ th zk zp za zb zx zy sn zf zt zw zm zh x0 y0 dx dy zz cu zo zu)), (zz, .inl (cJ, 192, .inr (.inl za1)))] := hD
  obtain ⟨eza1, qza1⟩ := wza1
  have hP9 := hP.sub (ws' := [(ma, .inr (6, mo_ th zk zp za zb zx zy sn zf zt zw zm zh x0 y0 dx dy zz cu zo zu)), (zz, .inl (cJ, 192, .inr (.inl za1)))]) [0, 1] rfl
  have hD9 := hD.sub (ws' := [(ma, .inr (6, mo_ th zk zp za zb zx zy sn zf zt zw zm zh x0 y0 dx dy zz cu zo zu)), (zz, .inl (cJ, 192, .inr (.inl za1)))]) [0, 1] (by decide) rfl
  exact W.iret (v := r1) hx hb hr (fun t ht hW => ⟨⟨r1, za1, rfl, ⟨eza1, qza1⟩, by rw [ht]; exact hP9, va_K.moved hW.alike hK, hD9⟩, hS.F ht⟩) hS.2.2 dX6_overX_14

theorem ikX6_overY_X6 : ∀ w ∈ wsX60, w ∈ wsX6_overY := by decide +kernel
set_option maxHeartbeats 1000000 in
set_option maxRecDepth 100000 in
theorem kX6_overY (l : Launch) (g : va_G) (cI cJ cZ : ClassId) (sz : Nat) (ma : Nat) (th : Int32) (sn : Int32) (x0 : Int64) (y0 : Int64) (dx : Int64) (dy : Int64) (cu : Int32) (zk : Nat) (zp : Nat) (za : Nat) (zb : Nat) (zx : Nat) (zy : Nat) (zf : Nat) (zt : Nat) (zw : Nat) (zm : Nat) (zh : Nat) (zz : Nat) (zo : Nat) (zu : Nat) (z : Nat → Int64) (nm : Int) (dn : Int) (v : Int64) (hq : gq_ z nm dn) : Met l yX6_overY wsX6_overY ({ frames := 3, cells := 0, slots := 0, locals := 75 }) (pc_ g cI cJ cZ [.ref ma, .long v] [(ma, .inr (6, mo_ th zk zp za zb zx zy sn zf zt zw zm zh x0 y0 dx dy zz cu zo zu)), (zz, .inl (cJ, 192, .inr (.inl z)))] sz) (va_Qi (fun (r : Int32) (z2 : (Nat → Int64)) => r = ovx_ y0 dy nm dn v ∧ gq_ z2 nm dn) (fun (z2 : (Nat → Int64)) t => wd_ g cI cJ cZ (va_A [(ma, .inr (6, mo_ th zk zp za zb zx zy sn zf zt zw zm zh x0 y0 dx dy zz cu zo zu)), (zz, .inl (cJ, 192, .inr (.inl z)))] sz) [(ma, .inr (6, mo_ th zk zp za zb zx zy sn zf zt zw zm zh x0 y0 dx dy zz cu zo zu)), (zz, .inl (cJ, 192, .inr (.inl z2)))] t) (va_A [(ma, .inr (6, mo_ th zk zp za zb zx zy sn zf zt zw zm zh x0 y0 dx dy zz cu zo zu)), (zz, .inl (cJ, 192, .inr (.inl z)))] sz)) (0) (0) (va_A [(ma, .inr (6, mo_ th zk zp za zb zx zy sn zf zt zw zm zh x0 y0 dx dy zz cu zo zu)), (zz, .inl (cJ, 192, .inr (.inl z)))] sz) := by
  refine Met.ofW (cc := cX6_overY) (maxL := 3) (ret := (some .int)) (by decide) rfl ?_
  intro p e s m args below meth c s₁ B hml hv
  obtain ⟨rfl, hsz, hP, hK, hD0⟩ := hv
  have hx := B.exec
  have hb := B.bytes
  have hr := B.returns
  have hts := atoms_spec (ws := wsX6_overY) B.pre
  have hown : s.vm.findClass RX6 = some m.cls := findClass_of_methodNamed B.named
  have hlocks := B.notSynchronized
  subst hsz
  have hD := hD0.self (sz := s.heap.size)
  generalize hAe : va_A [(ma, .inr (6, mo_ th zk zp za zb zx zy sn zf zt zw zm zh x0 y0 dx dy zz cu zo zu)), (zz, .inl (cJ, 192, .inr (.inl z)))] s.heap.size = A at hD ⊢
  have hA : ∀ q : Nat, s.heap.size ≤ q → A q := fun q h => by rw [← hAe]; exact Or.inr h
  have hS : va_S A s.heap s.heap [] := va_S.rf
  have hP : va_P g vwCl [(ma, .inr (6, mo_ th zk zp za zb zx zy sn zf zt zw zm zh x0 y0 dx dy zz cu zo zu)), (zz, .inl (cJ, 192, .inr (.inl z)))] s.heap := hP
  have hl := lv_entry ([.ref ma, .long v]) (n := 3) (Nat.le_of_ble_eq_true rfl)
  rw [lg_entry_eq]
  generalize (lg_sl ([.ref ma, .long v]) ++ List.replicate (3 - (lg_sl ([.ref ma, .long v])).length) Slot.unset).toArray = ls at hl ⊢
  have hl : lv_has ls 3 [(0, .ref ma), (1, .long v)] := hl
  have hH0 : s.heap = s.heap := rfl
  have hiX6 := ikX6_overY_X6
  refine lv_aload_n hx hb dX6_overY_0 rfl (lv_at hl 0 rfl) ?_
  refine lv_aload_n hx hb dX6_overY_1 rfl (lv_at hl 0 rfl) ?_
  refine va_get (D := g) (ci := 6) (v := .long y0) (C := RX6) (T := TX6) (N := 21) hx hb hts hiX6 hown hK hP 0 rfl rfl 14 (by decide) (hts (.fieldLink RX6 108 "ShapeRelatorModel" "y0" "J") (List.mem_of_getElem? (i := 1) rfl)) (fun _ h9 => h9) rfl dX6_overY_2 ?_
  refine lv_lload_n hx hb dX6_overY_5 rfl (lv_at hl 1 rfl) ?_
  refine lv_lsub hx hb dX6_overY_6 ?_
  refine lv_aload_n hx hb dX6_overY_7 rfl (lv_at hl 0 rfl) ?_
  refine va_get (D := g) (ci := 6) (v := .long dy) (C := RX6) (T := TX6) (N := 21) hx hb hts hiX6 hown hK hP 0 rfl rfl 16 (by decide) (hts (.fieldLink RX6 114 "ShapeRelatorModel" "dy" "J") (List.mem_of_getElem? (i := 2) rfl)) (fun _ h9 => h9) rfl dX6_overY_8 ?_
  have hPc := hP.sub (ws' := [(ma, .inr (6, mo_ th zk zp za zb zx zy sn zf zt zw zm zh x0 y0 dx dy zz cu zo zu)), (zz, .inl (cJ, 192, .inr (.inl z)))]) [0, 1] rfl
  have hDc := hD.sub (ws' := [(ma, .inr (6, mo_ th zk zp za zb zx zy sn zf zt zw zm zh x0 y0 dx dy zz cu zo zu)), (zz, .inl (cJ, 192, .inr (.inl z)))]) [0, 1] (by decide) rfl
  have hFc := va_free (wc := [(ma, .inr (6, mo_ th zk zp za zb zx zy sn zf zt zw zm zh x0 y0 dx dy zz cu zo zu)), (zz, .inl (cJ, 192, .inr (.inl z)))]) hD hS hA [0, 1] rfl
  refine va_calli (va_runV (As := [.long (y0 - v), .long dy]) (rest := []) ⟨hx, hb, hml, hown, hts⟩ (kX6_sgn l g cI cJ cZ s.heap.size ma th sn x0 y0 dx dy cu zk zp za zb zx zy zf zt zw zm zh zz zo zu z nm dn (y0 - v) dy hq) (cwV 2 hts gX6_overY_X6_sgn rfl rfl rfl (by decide +kernel) ⟨Nat.le_of_ble_eq_true rfl, Nat.le_of_ble_eq_true rfl⟩) (pv_ hK hPc hDc (va_recv hK hPc (ci := 6) (q0 := 0) rfl rfl)) rfl rfl hl.1 rfl (lv_room (Nat.le_of_ble_eq_true rfl)) dX6_overY_11 ⟨Nat.zero_le _, Nat.zero_le _⟩) hS (fun q _ h => hFc q h) hFc (fun r1 u t H1 locs ht hvm wza1 hB hz1 hk1 hS => ?_)
  obtain ⟨za1, rfl⟩ : ∃ z, z = u := ⟨_, rfl⟩
  obtain ⟨hP1, hK1, hD1⟩ := hB
  rw [ht] at hP1
  obtain ⟨hP, hD⟩ := va_join (wr := []) (w1 := [(ma, .inr (6, mo_ th zk zp za zb zx zy sn zf zt zw zm zh x0 y0 dx dy zz cu zo zu)), (zz, .inl (cJ, 192, .inr (.inl za1)))]) hP hD [0, 1] [] rfl rfl (by decide) (by decide) hk1 hFc hP1 hD1
  clear hPc hDc hFc hP1 hD1 hK1 hk1 hz1 hvm ht
  generalize H1 = H at hP hS ⊢
  have hP : va_P g vwCl [(ma, .inr (6, mo_ th zk zp za zb zx zy sn zf zt zw zm zh x0 y0 dx dy zz cu zo zu)), (zz, .inl (cJ, 192, .inr (.inl za1)))] H := hP
  have hD : va_D A [(ma, .inr (6, mo_ th zk zp za zb zx zy sn zf zt zw zm zh x0 y0 dx dy zz cu zo zu)), (zz, .inl (cJ, 192, .inr (.inl za1)))] := hD
  obtain ⟨eza1, qza1⟩ := wza1
  have hP9 := hP.sub (ws' := [(ma, .inr (6, mo_ th zk zp za zb zx zy sn zf zt zw zm zh x0 y0 dx dy zz cu zo zu)), (zz, .inl (cJ, 192, .inr (.inl za1)))]) [0, 1] rfl
  have hD9 := hD.sub (ws' := [(ma, .inr (6, mo_ th zk zp za zb zx zy sn zf zt zw zm zh x0 y0 dx dy zz cu zo zu)), (zz, .inl (cJ, 192, .inr (.inl za1)))]) [0, 1] (by decide) rfl
  exact W.iret (v := r1) hx hb hr (fun t ht hW => ⟨⟨r1, za1, rfl, ⟨eza1, qza1⟩, by rw [ht]; exact hP9, va_K.moved hW.alike hK, hD9⟩, hS.F ht⟩) hS.2.2 dX6_overY_14

theorem ikX6_side_X6 : ∀ w ∈ wsX60, w ∈ wsX6_side := by decide +kernel
set_option maxHeartbeats 1000000 in
set_option maxRecDepth 100000 in
theorem kX6_side (l : Launch) (g : va_G) (cI cJ cZ : ClassId) (sz : Nat) (ma : Nat) (th : Int32) (sn : Int32) (x0 : Int64) (y0 : Int64) (dx : Int64) (dy : Int64) (cu : Int32) (zk : Nat) (zp : Nat) (za : Nat) (zb : Nat) (zx : Nat) (zy : Nat) (zf : Nat) (zt : Nat) (zw : Nat) (zm : Nat) (zh : Nat) (zz : Nat) (zo : Nat) (zu : Nat) (z : Nat → Int64) (xs : Nat → Int32) (ys : Nat → Int32) (nm : Int) (dn : Int) (p1 : Nat) (q1 : Nat) (hq : gq_ z nm dn) (h1 : p1 < 4096) (h2 : q1 < 4096) : Met l yX6_side wsX6_side ({ frames := 3, cells := 0, slots := 0, locals := 75 }) (pc_ g cI cJ cZ [.ref ma, .int (nI p1), .int (nI q1)] [(ma, .inr (6, mo_ th zk zp za zb zx zy sn zf zt zw zm zh x0 y0 dx dy zz cu zo zu)), (zz, .inl (cJ, 192, .inr (.inl z))), (zx, .inl (cI, 4096, .inl xs)), (zy, .inl (cI, 4096, .inl ys))] sz) (va_Qi (fun (r : Int32) (z2 : (Nat → Int64)) => r = sde_ xs ys x0 y0 dx dy nm dn p1 q1 ∧ gq_ z2 nm dn) (fun (z2 : (Nat → Int64)) t => wd_ g cI cJ cZ (va_A [(ma, .inr (6, mo_ th zk zp za zb zx zy sn zf zt zw zm zh x0 y0 dx dy zz cu zo zu)), (zz, .inl (cJ, 192, .inr (.inl z))), (zx, .inl (cI, 4096, .inl xs)), (zy, .inl (cI, 4096, .inl ys))] sz) [(ma, .inr (6, mo_ th zk zp za zb zx zy sn zf zt zw zm zh x0 y0 dx dy zz cu zo zu)), (zz, .inl (cJ, 192, .inr (.inl z2))), (zx, .inl (cI, 4096, .inl xs)), (zy, .inl (cI, 4096, .inl ys))] t) (va_A [(ma, .inr (6, mo_ th zk zp za zb zx zy sn zf zt zw zm zh x0 y0 dx dy zz cu zo zu)), (zz, .inl (cJ, 192, .inr (.inl z))), (zx, .inl (cI, 4096, .inl xs)), (zy, .inl (cI, 4096, .inl ys))] sz)) (0) (0) (va_A [(ma, .inr (6, mo_ th zk zp za zb zx zy sn zf zt zw zm zh x0 y0 dx dy zz cu zo zu)), (zz, .inl (cJ, 192, .inr (.inl z))), (zx, .inl (cI, 4096, .inl xs)), (zy, .inl (cI, 4096, .inl ys))] sz) := by
  refine Met.ofW (cc := cX6_side) (maxL := 7) (ret := (some .int)) (by decide) rfl ?_
  intro p e s m args below meth c s₁ B hml hv
  obtain ⟨rfl, hsz, hP, hK, hD0⟩ := hv
  have hx := B.exec
  have hb := B.bytes
  have hr := B.returns
  have hts := atoms_spec (ws := wsX6_side) B.pre
  have hown : s.vm.findClass RX6 = some m.cls := findClass_of_methodNamed B.named
  have hlocks := B.notSynchronized
  subst hsz
  have hD := hD0.self (sz := s.heap.size)
  generalize hAe : va_A [(ma, .inr (6, mo_ th zk zp za zb zx zy sn zf zt zw zm zh x0 y0 dx dy zz cu zo zu)), (zz, .inl (cJ, 192, .inr (.inl z))), (zx, .inl (cI, 4096, .inl xs)), (zy, .inl (cI, 4096, .inl ys))] s.heap.size = A at hD ⊢
  have hA : ∀ q : Nat, s.heap.size ≤ q → A q := fun q h => by rw [← hAe]; exact Or.inr h
  have hS : va_S A s.heap s.heap [] := va_S.rf
  have hP : va_P g vwCl [(ma, .inr (6, mo_ th zk zp za zb zx zy sn zf zt zw zm zh x0 y0 dx dy zz cu zo zu)), (zz, .inl (cJ, 192, .inr (.inl z))), (zx, .inl (cI, 4096, .inl xs)), (zy, .inl (cI, 4096, .inl ys))] s.heap := hP
  have hl := lv_entry ([.ref ma, .int (nI p1), .int (nI q1)]) (n := 7) (Nat.le_of_ble_eq_true rfl)
  rw [lg_entry_eq]
  generalize (lg_sl ([.ref ma, .int (nI p1), .int (nI q1)]) ++ List.replicate (7 - (lg_sl ([.ref ma, .int (nI p1), .int (nI q1)])).length) Slot.unset).toArray = ls at hl ⊢
  have hl : lv_has ls 7 [(0, .ref ma), (1, .int (nI p1)), (2, .int (nI q1))] := hl
  have hH0 : s.heap = s.heap := rfl
  have hiX6 := ikX6_side_X6
  refine lv_aload_n hx hb dX6_side_0 rfl (lv_at hl 0 rfl) ?_
  refine va_get (D := g) (ci := 6) (v := .ref zx) (C := RX6) (T := TX6) (N := 21) hx hb hts hiX6 hown hK hP 0 rfl rfl 5 (by decide) (hts (.fieldLink RX6 22 "ShapeRelatorModel" "xs" "[I") (List.mem_of_getElem? (i := 1) rfl)) (fun _ h9 => h9) rfl dX6_side_1 ?_
  refine lv_iload_n hx hb dX6_side_4 rfl (lv_at hl 2 rfl) ?_
  refine va_iald (D := g) hx hb hK hP 2 0 rfl rfl (vp_in_nI (h2) (by omega)) dX6_side_5 ?_
  refine tpi_ (y := (xs q1)) (by rw [nI_clamp (by omega)]) ?_
  refine lv_i2l hx hb dX6_side_6 rfl ?_
  refine lv_aload_n hx hb dX6_side_7 rfl (lv_at hl 0 rfl) ?_
  refine va_get (D := g) (ci := 6) (v := .ref zx) (C := RX6) (T := TX6) (N := 21) hx hb hts hiX6 hown hK hP 0 rfl rfl 5 (by decide) (hts (.fieldLink RX6 22 "ShapeRelatorModel" "xs" "[I") (List.mem_of_getElem? (i := 1) rfl)) (fun _ h9 => h9) rfl dX6_side_8 ?_
  refine lv_iload_n hx hb dX6_side_11 rfl (lv_at hl 1 rfl) ?_
  refine va_iald (D := g) hx hb hK hP 2 0 rfl rfl (vp_in_nI (h1) (by omega)) dX6_side_12 ?_
  refine tpi_ (y := (xs p1)) (by rw [nI_clamp (by omega)]) ?_
  refine lv_i2l hx hb dX6_side_13 rfl ?_
  refine lv_lsub hx hb dX6_side_14 ?_
  refine lv_lstore_n (lv' := [(3, .long (((xs q1).toInt64) - ((xs p1).toInt64))), (0, .ref ma), (1, .int (nI p1)), (2, .int (nI q1))]) hx hb dX6_side_15 rfl hl (by decide) rfl (fun ls hl => ?_)
  refine lv_aload_n hx hb dX6_side_16 rfl (lv_at hl 1 rfl) ?_
  refine va_get (D := g) (ci := 6) (v := .ref zy) (C := RX6) (T := TX6) (N := 21) hx hb hts hiX6 hown hK hP 0 rfl rfl 6 (by decide) (hts (.fieldLink RX6 25 "ShapeRelatorModel" "ys" "[I") (List.mem_of_getElem? (i := 2) rfl)) (fun _ h9 => h9) rfl dX6_side_17 ?_
  refine lv_iload_n hx hb dX6_side_20 rfl (lv_at hl 3 rfl) ?_
  refine va_iald (D := g) hx hb hK hP 3 0 rfl rfl (vp_in_nI (h2) (by omega)) dX6_side_21 ?_
  refine tpi_ (y := (ys q1)) (by rw [nI_clamp (by omega)]) ?_
  refine lv_i2l hx hb dX6_side_22 rfl ?_
  refine lv_aload_n hx hb dX6_side_23 rfl (lv_at hl 1 rfl) ?_
  refine va_get (D := g) (ci := 6) (v := .ref zy) (C := RX6) (T := TX6) (N := 21) hx hb hts hiX6 hown hK hP 0 rfl rfl 6 (by decide) (hts (.fieldLink RX6 25 "ShapeRelatorModel" "ys" "[I") (List.mem_of_getElem? (i := 2) rfl)) (fun _ h9 => h9) rfl dX6_side_24 ?_
  refine lv_iload_n hx hb dX6_side_27 rfl (lv_at hl 2 rfl) ?_
  refine va_iald (D := g) hx hb hK hP 3 0 rfl rfl (vp_in_nI (h1) (by omega)) dX6_side_28 ?_
  refine tpi_ (y := (ys p1)) (by rw [nI_clamp (by omega)]) ?_
  refine lv_i2l hx hb dX6_side_29 rfl ?_
  refine lv_lsub hx hb dX6_side_30 ?_
  refine lv_lstore (lv' := [(5, .long (((ys q1).toInt64) - ((ys p1).toInt64))), (3, .long (((xs q1).toInt64) - ((xs p1).toInt64))), (0, .ref ma), (1, .int (nI p1)), (2, .int (nI q1))]) hx hb dX6_side_31 hl (by decide) rfl (fun ls hl => ?_)
  refine lv_aload_n hx hb dX6_side_33 rfl (lv_at hl 2 rfl) ?_
  refine lv_lload_n hx hb dX6_side_34 rfl (lv_at hl 1 rfl) ?_
  refine lv_aload_n hx hb dX6_side_35 rfl (lv_at hl 2 rfl) ?_
  refine va_get (D := g) (ci := 6) (v := .long y0) (C := RX6) (T := TX6) (N := 21) hx hb hts hiX6 hown hK hP 0 rfl rfl 14 (by decide) (hts (.fieldLink RX6 108 "ShapeRelatorModel" "y0" "J") (List.mem_of_getElem? (i := 3) rfl)) (fun _ h9 => h9) rfl dX6_side_36 ?_
  refine lv_aload_n hx hb dX6_side_39 rfl (lv_at hl 2 rfl) ?_
  refine va_get (D := g) (ci := 6) (v := .ref zy) (C := RX6) (T := TX6) (N := 21) hx hb hts hiX6 hown hK hP 0 rfl rfl 6 (by decide) (hts (.fieldLink RX6 25 "ShapeRelatorModel" "ys" "[I") (List.mem_of_getElem? (i := 2) rfl)) (fun _ h9 => h9) rfl dX6_side_40 ?_
  refine lv_iload_n hx hb dX6_side_43 rfl (lv_at hl 3 rfl) ?_
  refine va_iald (D := g) hx hb hK hP 3 0 rfl rfl (vp_in_nI (h1) (by omega)) dX6_side_44 ?_
  refine tpi_ (y := (ys p1)) (by rw [nI_clamp (by omega)]) ?_
  refine lv_i2l hx hb dX6_side_45 rfl ?_
  refine lv_lsub hx hb dX6_side_46 ?_
  refine lv_lmul hx hb dX6_side_47 ?_
  refine lv_lload hx hb dX6_side_48 (lv_at hl 0 rfl) ?_
  refine lv_aload_n hx hb dX6_side_50 rfl (lv_at hl 2 rfl) ?_
  refine va_get (D := g) (ci := 6) (v := .long x0) (C := RX6) (T := TX6) (N := 21) hx hb hts hiX6 hown hK hP 0 rfl rfl 13 (by decide) (hts (.fieldLink RX6 104 "ShapeRelatorModel" "x0" "J") (List.mem_of_getElem? (i := 4) rfl)) (fun _ h9 => h9) rfl dX6_side_51 ?_
  refine lv_aload_n hx hb dX6_side_54 rfl (lv_at hl 2 rfl) ?_
  refine va_get (D := g) (ci := 6) (v := .ref zx) (C := RX6) (T := TX6) (N := 21) hx hb hts hiX6 hown hK hP 0 rfl rfl 5 (by decide) (hts (.fieldLink RX6 22 "ShapeRelatorModel" "xs" "[I") (List.mem_of_getElem? (i := 1) rfl)) (fun _ h9 => h9) rfl dX6_side_55 ?_
  refine lv_iload_n hx hb dX6_side_58 rfl (lv_at hl 3 rfl) ?_
  refine va_iald (D := g) hx hb hK hP 2 0 rfl rfl (vp_in_nI (h1) (by omega)) dX6_side_59 ?_
  refine tpi_ (y := (xs p1)) (by rw [nI_clamp (by omega)]) ?_
  refine lv_i2l hx hb dX6_side_60 rfl ?_
  refine lv_lsub hx hb dX6_side_61 ?_
  refine lv_lmul hx hb dX6_side_62 ?_
  refine lv_lsub hx hb dX6_side_63 ?_
  refine lv_lload_n hx hb dX6_side_64 rfl (lv_at hl 1 rfl) ?_
  refine lv_aload_n hx hb dX6_side_65 rfl (lv_at hl 2 rfl) ?_
  refine va_get (D := g) (ci := 6) (v := .long dy) (C := RX6) (T := TX6) (N := 21) hx hb hts hiX6 hown hK hP 0 rfl rfl 16 (by decide) (hts (.fieldLink RX6 114 "ShapeRelatorModel" "dy" "J") (List.mem_of_getElem? (i := 5) rfl)) (fun _ h9 => h9) rfl dX6_side_66 ?_
  refine lv_lmul hx hb dX6_side_69 ?_
  refine lv_lload hx hb dX6_side_70 (lv_at hl 0 rfl) ?_
  refine lv_aload_n hx hb dX6_side_72 rfl (lv_at hl 2 rfl) ?_
  refine va_get (D := g) (ci := 6) (v := .long dx) (C := RX6) (T := TX6) (N := 21) hx hb hts hiX6 hown hK hP 0 rfl rfl 15 (by decide) (hts (.fieldLink RX6 111 "ShapeRelatorModel" "dx" "J") (List.mem_of_getElem? (i := 6) rfl)) (fun _ h9 => h9) rfl dX6_side_73 ?_
  refine lv_lmul hx hb dX6_side_76 ?_
  refine lv_lsub hx hb dX6_side_77 ?_
  have hPc := hP.sub (ws' := [(ma, .inr (6, mo_ th zk zp za zb zx zy sn zf zt zw zm zh x0 y0 dx dy zz cu zo zu)), (zz, .inl (cJ, 192, .inr (.inl z)))]) [0, 1] rfl
  have hDc := hD.sub (ws' := [(ma, .inr (6, mo_ th zk zp za zb zx zy sn zf zt zw zm zh x0 y0 dx dy zz cu zo zu)), (zz, .inl (cJ, 192, .inr (.inl z)))]) [0, 1] (by decide) rfl
  have hFc := va_free (wc := [(ma, .inr (6, mo_ th zk zp za zb zx zy sn zf zt zw zm zh x0 y0 dx dy zz cu zo zu)), (zz, .inl (cJ, 192, .inr (.inl z)))]) hD hS hA [0, 1] rfl
  refine va_calli (va_runV (As := [.long (((((xs q1).toInt64) - ((xs p1).toInt64)) * (y0 - ((ys p1).toInt64))) - ((((ys q1).toInt64) - ((ys p1).toInt64)) * (x0 - ((xs p1).toInt64)))), .long (((((xs q1).toInt64) - ((xs p1).toInt64)) * dy) - ((((ys q1).toInt64) - ((ys p1).toInt64)) * dx))]) (rest := []) ⟨hx, hb, hml, hown, hts⟩ (kX6_sgn l g cI cJ cZ s.heap.size ma th sn x0 y0 dx dy cu zk zp za zb zx zy zf zt zw zm zh zz zo zu z nm dn (((((xs q1).toInt64) - ((xs p1).toInt64)) * (y0 - ((ys p1).toInt64))) - ((((ys q1).toInt64) - ((ys p1).toInt64)) * (x0 - ((xs p1).toInt64)))) (((((xs q1).toInt64) - ((xs p1).toInt64)) * dy) - ((((ys q1).toInt64) - ((ys p1).toInt64)) * dx)) hq) (cwV 2 hts gX6_side_X6_sgn rfl rfl rfl (by decide +kernel) ⟨Nat.le_of_ble_eq_true rfl, Nat.le_of_ble_eq_true rfl⟩) (pv_ hK hPc hDc (va_recv hK hPc (ci := 6) (q0 := 0) rfl rfl)) rfl rfl hl.1 rfl (lv_room (Nat.le_of_ble_eq_true rfl)) dX6_side_78 ⟨Nat.zero_le _, Nat.zero_le _⟩) hS (fun q _ h => hFc q h) hFc (fun r1 u t H1 locs ht hvm wza1 hB hz1 hk1 hS => ?_)
  obtain ⟨za1, rfl⟩ : ∃ z, z = u := ⟨_, rfl⟩
  obtain ⟨hP1, hK1, hD1⟩ := hB
  rw [ht] at hP1
  obtain ⟨hP, hD⟩ := va_join (wr := [(zx, .inl (cI, 4096, .inl xs)), (zy, .inl (cI, 4096, .inl ys))]) (w1 := [(ma, .inr (6, mo_ th zk zp za zb zx zy sn zf zt zw zm zh x0 y0 dx dy zz cu zo zu)), (zz, .inl (cJ, 192, .inr (.inl za1)))]) hP hD [0, 1] [2, 3] rfl rfl (by decide) (by decide) hk1 hFc hP1 hD1
  clear hPc hDc hFc hP1 hD1 hK1 hk1 hz1 hvm ht
  generalize H1 = H at hP hS ⊢
  have hP : va_P g vwCl [(zx, .inl (cI, 4096, .inl xs)), (zy, .inl (cI, 4096, .inl ys)), (ma, .inr (6, mo_ th zk zp za zb zx zy sn zf zt zw zm zh x0 y0 dx dy zz cu zo zu)), (zz, .inl (cJ, 192, .inr (.inl za1)))] H := hP
  have hD : va_D A [(zx, .inl (cI, 4096, .inl xs)), (zy, .inl (cI, 4096, .inl ys)), (ma, .inr (6, mo_ th zk zp za zb zx zy sn zf zt zw zm zh x0 y0 dx dy zz cu zo zu)), (zz, .inl (cJ, 192, .inr (.inl za1)))] := hD
  obtain ⟨eza1, qza1⟩ := wza1
  have hP9 := hP.sub (ws' := [(ma, .inr (6, mo_ th zk zp za zb zx zy sn zf zt zw zm zh x0 y0 dx dy zz cu zo zu)), (zz, .inl (cJ, 192, .inr (.inl za1))), (zx, .inl (cI, 4096, .inl xs)), (zy, .inl (cI, 4096, .inl ys))]) [2, 3, 0, 1] rfl
  have hD9 := hD.sub (ws' := [(ma, .inr (6, mo_ th zk zp za zb zx zy sn zf zt zw zm zh x0 y0 dx dy zz cu zo zu)), (zz, .inl (cJ, 192, .inr (.inl za1))), (zx, .inl (cI, 4096, .inl xs)), (zy, .inl (cI, 4096, .inl ys))]) [2, 3, 0, 1] (by decide) rfl
  exact W.iret (v := r1) hx hb hr (fun t ht hW => ⟨⟨r1, za1, rfl, ⟨eza1, qza1⟩, by rw [ht]; exact hP9, va_K.moved hW.alike hK, hD9⟩, hS.F ht⟩) hS.2.2 dX6_side_81

theorem ikX6_isPoint_X6 : ∀ w ∈ wsX60, w ∈ wsX6_isPoint := by decide +kernel
set_option maxHeartbeats 1000000 in
set_option maxRecDepth 100000 in
theorem kX6_isPoint (l : Launch) (g : va_G) (cI cJ cZ : ClassId) (sz : Nat) (ma : Nat) (th : Int32) (sn : Int32) (x0 : Int64) (y0 : Int64) (dx : Int64) (dy : Int64) (cu : Int32) (zk : Nat) (zp : Nat) (za : Nat) (zb : Nat) (zx : Nat) (zy : Nat) (zf : Nat) (zt : Nat) (zw : Nat) (zm : Nat) (zh : Nat) (zz : Nat) (zo : Nat) (zu : Nat) (z : Nat → Int64) (xs : Nat → Int32) (ys : Nat → Int32) (nm : Int) (dn : Int) (p1 : Nat) (hq : gq_ z nm dn) (h1 : p1 < 4096) : Met l yX6_isPoint wsX6_isPoint ({ frames := 4, cells := 0, slots := 0, locals := 97 }) (pc_ g cI cJ cZ [.ref ma, .int (nI p1)] [(ma, .inr (6, mo_ th zk zp za zb zx zy sn zf zt zw zm zh x0 y0 dx dy zz cu zo zu)), (zz, .inl (cJ, 192, .inr (.inl z))), (zx, .inl (cI, 4096, .inl xs)), (zy, .inl (cI, 4096, .inl ys))] sz) (va_Qi (fun (r : Int32) (z2 : (Nat → Int64)) => r = isp_ xs ys x0 y0 dx dy nm dn p1 ∧ gq_ z2 nm dn) (fun (z2 : (Nat → Int64)) t => wd_ g cI cJ cZ (va_A [(ma, .inr (6, mo_ th zk zp za zb zx zy sn zf zt zw zm zh x0 y0 dx dy zz cu zo zu)), (zz, .inl (cJ, 192, .inr (.inl z))), (zx, .inl (cI, 4096, .inl xs)), (zy, .inl (cI, 4096, .inl ys))] sz) [(ma, .inr (6, mo_ th zk zp za zb zx zy sn zf zt zw zm zh x0 y0 dx dy zz cu zo zu)), (zz, .inl (cJ, 192, .inr (.inl z2))), (zx, .inl (cI, 4096, .inl xs)), (zy, .inl (cI, 4096, .inl ys))] t) (va_A [(ma, .inr (6, mo_ th zk zp za zb zx zy sn zf zt zw zm zh x0 y0 dx dy zz cu zo zu)), (zz, .inl (cJ, 192, .inr (.inl z))), (zx, .inl (cI, 4096, .inl xs)), (zy, .inl (cI, 4096, .inl ys))] sz)) (0) (0) (va_A [(ma, .inr (6, mo_ th zk zp za zb zx zy sn zf zt zw zm zh x0 y0 dx dy zz cu zo zu)), (zz, .inl (cJ, 192, .inr (.inl z))), (zx, .inl (cI, 4096, .inl xs)), (zy, .inl (cI, 4096, .inl ys))] sz) := by
  refine Met.ofW (cc := cX6_isPoint) (maxL := 2) (ret := (some .boolean)) (by decide) rfl ?_
  intro p e s m args below meth c s₁ B hml hv
  obtain ⟨rfl, hsz, hP, hK, hD0⟩ := hv
  have hx := B.exec
  have hb := B.bytes
  have hr := B.returns
  have hts := atoms_spec (ws := wsX6_isPoint) B.pre
  have hown : s.vm.findClass RX6 = some m.cls := findClass_of_methodNamed B.named
  have hlocks := B.notSynchronized
  subst hsz
  have hD := hD0.self (sz := s.heap.size)
  generalize hAe : va_A [(ma, .inr (6, mo_ th zk zp za zb zx zy sn zf zt zw zm zh x0 y0 dx dy zz cu zo zu)), (zz, .inl (cJ, 192, .inr (.inl z))), (zx, .inl (cI, 4096, .inl xs)), (zy, .inl (cI, 4096, .inl ys))] s.heap.size = A at hD ⊢
  have hA : ∀ q : Nat, s.heap.size ≤ q → A q := fun q h => by rw [← hAe]; exact Or.inr h
  have hS : va_S A s.heap s.heap [] := va_S.rf
  have hP : va_P g vwCl [(ma, .inr (6, mo_ th zk zp za zb zx zy sn zf zt zw zm zh x0 y0 dx dy zz cu zo zu)), (zz, .inl (cJ, 192, .inr (.inl z))), (zx, .inl (cI, 4096, .inl xs)), (zy, .inl (cI, 4096, .inl ys))] s.heap := hP
  have hl := lv_entry ([.ref ma, .int (nI p1)]) (n := 2) (Nat.le_of_ble_eq_true rfl)
  rw [lg_entry_eq]
  generalize (lg_sl ([.ref ma, .int (nI p1)]) ++ List.replicate (2 - (lg_sl ([.ref ma, .int (nI p1)])).length) Slot.unset).toArray = ls at hl ⊢
  have hl : lv_has ls 2 [(0, .ref ma), (1, .int (nI p1))] := hl
  have hH0 : s.heap = s.heap := rfl
  have hiX6 := ikX6_isPoint_X6
  refine lv_aload_n hx hb dX6_isPoint_0 rfl (lv_at hl 0 rfl) ?_
  refine lv_aload_n hx hb dX6_isPoint_1 rfl (lv_at hl 0 rfl) ?_
  refine va_get (D := g) (ci := 6) (v := .ref zx) (C := RX6) (T := TX6) (N := 21) hx hb hts hiX6 hown hK hP 0 rfl rfl 5 (by decide) (hts (.fieldLink RX6 22 "ShapeRelatorModel" "xs" "[I") (List.mem_of_getElem? (i := 1) rfl)) (fun _ h9 => h9) rfl dX6_isPoint_2 ?_
  refine lv_iload_n hx hb dX6_isPoint_5 rfl (lv_at hl 1 rfl) ?_
  refine va_iald (D := g) hx hb hK hP 2 0 rfl rfl (vp_in_nI (h1) (by omega)) dX6_isPoint_6 ?_
  refine tpi_ (y := (xs p1)) (by rw [nI_clamp (by omega)]) ?_
  refine lv_i2l hx hb dX6_isPoint_7 rfl ?_
  have hPc := hP.sub (ws' := [(ma, .inr (6, mo_ th zk zp za zb zx zy sn zf zt zw zm zh x0 y0 dx dy zz cu zo zu)), (zz, .inl (cJ, 192, .inr (.inl z)))]) [0, 1] rfl
  have hDc := hD.sub (ws' := [(ma, .inr (6, mo_ th zk zp za zb zx zy sn zf zt zw zm zh x0 y0 dx dy zz cu zo zu)), (zz, .inl (cJ, 192, .inr (.inl z)))]) [0, 1] (by decide) rfl
  have hFc := va_free (wc := [(ma, .inr (6, mo_ th zk zp za zb zx zy sn zf zt zw zm zh x0 y0 dx dy zz cu zo zu)), (zz, .inl (cJ, 192, .inr (.inl z)))]) hD hS hA [0, 1] rfl
  refine va_calli (va_runV (As := [.long ((xs p1).toInt64)]) (rest := []) ⟨hx, hb, hml, hown, hts⟩ (kX6_overX l g cI cJ cZ s.heap.size ma th sn x0 y0 dx dy cu zk zp za zb zx zy zf zt zw zm zh zz zo zu z nm dn ((xs p1).toInt64) hq) (cwV 1 hts gX6_isPoint_X6_overX rfl rfl rfl (by decide +kernel) ⟨Nat.le_of_ble_eq_true rfl, Nat.le_of_ble_eq_true rfl⟩) (pv_ hK hPc hDc (va_recv hK hPc (ci := 6) (q0 := 0) rfl rfl)) rfl rfl hl.1 rfl (lv_room (Nat.le_of_ble_eq_true rfl)) dX6_isPoint_8 ⟨Nat.zero_le _, Nat.zero_le _⟩) hS (fun q _ h => hFc q h) hFc (fun r1 u t H1 locs ht hvm wza1 hB hz1 hk1 hS => ?_)
  obtain ⟨za1, rfl⟩ : ∃ z, z = u := ⟨_, rfl⟩
  obtain ⟨hP1, hK1, hD1⟩ := hB
  rw [ht] at hP1
  obtain ⟨hP, hD⟩ := va_join (wr := [(zx, .inl (cI, 4096, .inl xs)), (zy, .inl (cI, 4096, .inl ys))]) (w1 := [(ma, .inr (6, mo_ th zk zp za zb zx zy sn zf zt zw zm zh x0 y0 dx dy zz cu zo zu)), (zz, .inl (cJ, 192, .inr (.inl za1)))]) hP hD [0, 1] [2, 3] rfl rfl (by decide) (by decide) hk1 hFc hP1 hD1
  clear hPc hDc hFc hP1 hD1 hK1 hk1 hz1 hvm ht
  generalize H1 = H at hP hS ⊢
  have hP : va_P g vwCl [(zx, .inl (cI, 4096, .inl xs)), (zy, .inl (cI, 4096, .inl ys)), (ma, .inr (6, mo_ th zk zp za zb zx zy sn zf zt zw zm zh x0 y0 dx dy zz cu zo zu)), (zz, .inl (cJ, 192, .inr (.inl za1)))] H := hP
  have hD : va_D A [(zx, .inl (cI, 4096, .inl xs)), (zy, .inl (cI, 4096, .inl ys)), (ma, .inr (6, mo_ th zk zp za zb zx zy sn zf zt zw zm zh x0 y0 dx dy zz cu zo zu)), (zz, .inl (cJ, 192, .inr (.inl za1)))] := hD
  obtain ⟨eza1, qza1⟩ := wza1
  refine lv_if_ne (tgt := 32) hx hb dX6_isPoint_11 (by decide) (fun c1 => ?_) (fun c1 => ?_)
  · refine lv_iconst (v := 0) hx hb dX6_isPoint_32 (by decide) ?_
    have hP9 := hP.sub (ws' := [(ma, .inr (6, mo_ th zk zp za zb zx zy sn zf zt zw zm zh x0 y0 dx dy zz cu zo zu)), (zz, .inl (cJ, 192, .inr (.inl za1))), (zx, .inl (cI, 4096, .inl xs)), (zy, .inl (cI, 4096, .inl ys))]) [2, 3, 0, 1] rfl
    have hD9 := hD.sub (ws' := [(ma, .inr (6, mo_ th zk zp za zb zx zy sn zf zt zw zm zh x0 y0 dx dy zz cu zo zu)), (zz, .inl (cJ, 192, .inr (.inl za1))), (zx, .inl (cI, 4096, .inl xs)), (zy, .inl (cI, 4096, .inl ys))]) [2, 3, 0, 1] (by decide) rfl
    exact W.zret (v := 0) (ty := .boolean) hx hb hr (by decide +kernel) (fun t ht hW => ⟨⟨0, za1, rfl, ⟨by unfold isp_; rw [if_neg (fun h => c1 (by rw [eza1]; exact h.1))], qza1⟩, by rw [ht]; exact hP9, va_K.moved hW.alike hK, hD9⟩, hS.F ht⟩) hS.2.2 dX6_isPoint_33
  · refine lv_aload_n hx hb dX6_isPoint_14 rfl (lv_at hl 0 rfl) ?_
    refine lv_aload_n hx hb dX6_isPoint_15 rfl (lv_at hl 0 rfl) ?_
    refine va_get (D := g) (ci := 6) (v := .ref zy) (C := RX6) (T := TX6) (N := 21) hx hb hts hiX6 hown hK hP 2 rfl rfl 6 (by decide) (hts (.fieldLink RX6 25 "ShapeRelatorModel" "ys" "[I") (List.mem_of_getElem? (i := 2) rfl)) (fun _ h9 => h9) rfl dX6_isPoint_16 ?_
    refine lv_iload_n hx hb dX6_isPoint_19 rfl (lv_at hl 1 rfl) ?_
    refine va_iald (D := g) hx hb hK hP 1 0 rfl rfl (vp_in_nI (h1) (by omega)) dX6_isPoint_20 ?_
    refine tpi_ (y := (ys p1)) (by rw [nI_clamp (by omega)]) ?_
    refine lv_i2l hx hb dX6_isPoint_21 rfl ?_
    have hPc := hP.sub (ws' := [(ma, .inr (6, mo_ th zk zp za zb zx zy sn zf zt zw zm zh x0 y0 dx dy zz cu zo zu)), (zz, .inl (cJ, 192, .inr (.inl za1)))]) [2, 3] rfl
    have hDc := hD.sub (ws' := [(ma, .inr (6, mo_ th zk zp za zb zx zy sn zf zt zw zm zh x0 y0 dx dy zz cu zo zu)), (zz, .inl (cJ, 192, .inr (.inl za1)))]) [2, 3] (by decide) rfl
    have hFc := va_free (wc := [(ma, .inr (6, mo_ th zk zp za zb zx zy sn zf zt zw zm zh x0 y0 dx dy zz cu zo zu)), (zz, .inl (cJ, 192, .inr (.inl za1)))]) hD hS hA [2, 3] rfl
    refine va_calli (va_runV (As := [.long ((ys p1).toInt64)]) (rest := []) ⟨hx, hb, hml, hown, hts⟩ (kX6_overY l g cI cJ cZ H.size ma th sn x0 y0 dx dy cu zk zp za zb zx zy zf zt zw zm zh zz zo zu za1 nm dn ((ys p1).toInt64) qza1) (cwV 1 hts gX6_isPoint_X6_overY rfl rfl rfl (by decide +kernel) ⟨Nat.le_of_ble_eq_true rfl, Nat.le_of_ble_eq_true rfl⟩) (pv_ hK hPc hDc (va_recv hK hPc (ci := 6) (q0 := 0) rfl rfl)) rfl rfl hl.1 rfl (lv_room (Nat.le_of_ble_eq_true rfl)) dX6_isPoint_22 ⟨Nat.zero_le _, Nat.zero_le _⟩) hS (fun q _ h => hFc q h) hFc (fun r2 u t H1 locs ht hvm wza2 hB hz1 hk1 hS => ?_)
    obtain ⟨za2, rfl⟩ : ∃ z, z = u := ⟨_, rfl⟩
    obtain ⟨hP1, hK1, hD1⟩ := hB
    rw [ht] at hP1
    obtain ⟨hP, hD⟩ := va_join (wr := [(zx, .inl (cI, 4096, .inl xs)), (zy, .inl (cI, 4096, .inl ys))]) (w1 := [(ma, .inr (6, mo_ th zk zp za zb zx zy sn zf zt zw zm zh x0 y0 dx dy zz cu zo zu)), (zz, .inl (cJ, 192, .inr (.inl za2)))]) hP hD [2, 3] [0, 1] rfl rfl (by decide) (by decide) hk1 hFc hP1 hD1
    clear hPc hDc hFc hP1 hD1 hK1 hk1 hz1 hvm ht
    generalize H1 = H at hP hS ⊢
    have hP : va_P g vwCl [(zx, .inl (cI, 4096, .inl xs)), (zy, .inl (cI, 4096, .inl ys)), (ma, .inr (6, mo_ th zk zp za zb zx zy sn zf zt zw zm zh x0 y0 dx dy zz cu zo zu)), (zz, .inl (cJ, 192, .inr (.inl za2)))] H := hP
    have hD : va_D A [(zx, .inl (cI, 4096, .inl xs)), (zy, .inl (cI, 4096, .inl ys)), (ma, .inr (6, mo_ th zk zp za zb zx zy sn zf zt zw zm zh x0 y0 dx dy zz cu zo zu)), (zz, .inl (cJ, 192, .inr (.inl za2)))] := hD
    obtain ⟨eza2, qza2⟩ := wza2
    refine lv_if_ne (tgt := 32) hx hb dX6_isPoint_25 (by decide) (fun c2 => ?_) (fun c2 => ?_)
    · refine lv_iconst (v := 0) hx hb dX6_isPoint_32 (by decide) ?_
      have hP9 := hP.sub (ws' := [(ma, .inr (6, mo_ th zk zp za zb zx zy sn zf zt zw zm zh x0 y0 dx dy zz cu zo zu)), (zz, .inl (cJ, 192, .inr (.inl za2))), (zx, .inl (cI, 4096, .inl xs)), (zy, .inl (cI, 4096, .inl ys))]) [2, 3, 0, 1] rfl
      have hD9 := hD.sub (ws' := [(ma, .inr (6, mo_ th zk zp za zb zx zy sn zf zt zw zm zh x0 y0 dx dy zz cu zo zu)), (zz, .inl (cJ, 192, .inr (.inl za2))), (zx, .inl (cI, 4096, .inl xs)), (zy, .inl (cI, 4096, .inl ys))]) [2, 3, 0, 1] (by decide) rfl
      exact W.zret (v := 0) (ty := .boolean) hx hb hr (by decide +kernel) (fun t ht hW => ⟨⟨0, za2, rfl, ⟨by unfold isp_; rw [if_neg (fun h => c2 (by rw [eza2]; exact h.2))], qza2⟩, by rw [ht]; exact hP9, va_K.moved hW.alike hK, hD9⟩, hS.F ht⟩) hS.2.2 dX6_isPoint_33
    · refine lv_iconst (v := 1) hx hb dX6_isPoint_28 (by decide) ?_
      refine lv_goto (tgt := 33) hx hb dX6_isPoint_29 (by decide) ?_
      have hP9 := hP.sub (ws' := [(ma, .inr (6, mo_ th zk zp za zb zx zy sn zf zt zw zm zh x0 y0 dx dy zz cu zo zu)), (zz, .inl (cJ, 192, .inr (.inl za2))), (zx, .inl (cI, 4096, .inl xs)), (zy, .inl (cI, 4096, .inl ys))]) [2, 3, 0, 1] rfl
      have hD9 := hD.sub (ws' := [(ma, .inr (6, mo_ th zk zp za zb zx zy sn zf zt zw zm zh x0 y0 dx dy zz cu zo zu)), (zz, .inl (cJ, 192, .inr (.inl za2))), (zx, .inl (cI, 4096, .inl xs)), (zy, .inl (cI, 4096, .inl ys))]) [2, 3, 0, 1] (by decide) rfl
      exact W.zret (v := 1) (ty := .boolean) hx hb hr (by decide +kernel) (fun t ht hW => ⟨⟨1, za2, rfl, ⟨by unfold isp_; rw [if_pos ⟨by rw [← eza1]; exact c1, by rw [← eza2]; exact c2⟩], qza2⟩, by rw [ht]; exact hP9, va_K.moved hW.alike hK, hD9⟩, hS.F ht⟩) hS.2.2 dX6_isPoint_33

theorem ikX6_isOn_X6 : ∀ w ∈ wsX60, w ∈ wsX6_isOn := by decide +kernel
set_option maxHeartbeats 1000000 in
set_option maxRecDepth 100000 in
theorem kX6_isOn (l : Launch) (g : va_G) (cI cJ cZ : ClassId) (sz : Nat) (ma : Nat) (th : Int32) (sn : Int32) (x0 : Int64) (y0 : Int64) (dx : Int64) (dy : Int64) (cu : Int32) (zk : Nat) (zp : Nat) (za : Nat) (zb : Nat) (zx : Nat) (zy : Nat) (zf : Nat) (zt : Nat) (zw : Nat) (zm : Nat) (zh : Nat) (zz : Nat) (zo : Nat) (zu : Nat) (z : Nat → Int64) (xs : Nat → Int32) (ys : Nat → Int32) (fr : Nat → Int32) (to1 : Nat → Int32) (nm : Int) (dn : Int) (k : Nat) (p1 : Nat) (q1 : Nat) (hq : gq_ z nm dn) (h1 : p1 < 4096) (h2 : q1 < 4096) (h3 : k < 4096) (h4 : fr k = nI p1) (h5 : to1 k = nI q1) : Met l yX6_isOn wsX6_isOn ({ frames := 4, cells := 0, slots := 0, locals := 101 }) (pc_ g cI cJ cZ [.ref ma, .int (nI k)] [(ma, .inr (6, mo_ th zk zp za zb zx zy sn zf zt zw zm zh x0 y0 dx dy zz cu zo zu)), (zz, .inl (cJ, 192, .inr (.inl z))), (zx, .inl (cI, 4096, .inl xs)), (zy, .inl (cI, 4096, .inl ys)), (zf, .inl (cI, 4096, .inl fr)), (zt, .inl (cI, 4096, .inl to1))] sz) (va_Qi (fun (r : Int32) (z2 : (Nat → Int64)) => r = iso_ xs ys x0 y0 dx dy nm dn p1 q1 ∧ gq_ z2 nm dn) (fun (z2 : (Nat → Int64)) t => wd_ g cI cJ cZ (va_A [(ma, .inr (6, mo_ th zk zp za zb zx zy sn zf zt zw zm zh x0 y0 dx dy zz cu zo zu)), (zz, .inl (cJ, 192, .inr (.inl z))), (zx, .inl (cI, 4096, .inl xs)), (zy, .inl (cI, 4096, .inl ys)), (zf, .inl (cI, 4096, .inl fr)), (zt, .inl (cI, 4096, .inl to1))] sz) [(ma, .inr (6, mo_ th zk zp za zb zx zy sn zf zt zw zm zh x0 y0 dx dy zz cu zo zu)), (zz, .inl (cJ, 192, .inr (.inl z2))), (zx, .inl (cI, 4096, .inl xs)), (zy, .inl (cI, 4096, .inl ys)), (zf, .inl (cI, 4096, .inl fr)), (zt, .inl (cI, 4096, .inl to1))] t) (va_A [(ma, .inr (6, mo_ th zk zp za zb zx zy sn zf zt zw zm zh x0 y0 dx dy zz cu zo zu)), (zz, .inl (cJ, 192, .inr (.inl z))), (zx, .inl (cI, 4096, .inl xs)), (zy, .inl (cI, 4096, .inl ys)), (zf, .inl (cI, 4096, .inl fr)), (zt, .inl (cI, 4096, .inl to1))] sz)) (0) (0) (va_A [(ma, .inr (6, mo_ th zk zp za zb zx zy sn zf zt zw zm zh x0 y0 dx dy zz cu zo zu)), (zz, .inl (cJ, 192, .inr (.inl z))), (zx, .inl (cI, 4096, .inl xs)), (zy, .inl (cI, 4096, .inl ys)), (zf, .inl (cI, 4096, .inl fr)), (zt, .inl (cI, 4096, .inl to1))] sz) := by
  refine Met.ofW (cc := cX6_isOn) (maxL := 4) (ret := (some .boolean)) (by decide) rfl ?_
  intro p e s m args below meth c s₁ B hml hv
  obtain ⟨rfl, hsz, hP, hK, hD0⟩ := hv
  have hx := B.exec
  have hb := B.bytes
  have hr := B.returns
  have hts := atoms_spec (ws := wsX6_isOn) B.pre
  have hown : s.vm.findClass RX6 = some m.cls := findClass_of_methodNamed B.named
  have hlocks := B.notSynchronized
  subst hsz
  have hD := hD0.self (sz := s.heap.size)
  generalize hAe : va_A [(ma, .inr (6, mo_ th zk zp za zb zx zy sn zf zt zw zm zh x0 y0 dx dy zz cu zo zu)), (zz, .inl (cJ, 192, .inr (.inl z))), (zx, .inl (cI, 4096, .inl xs)), (zy, .inl (cI, 4096, .inl ys)), (zf, .inl (cI, 4096, .inl fr)), (zt, .inl (cI, 4096, .inl to1))] s.heap.size = A at hD ⊢
  have hA : ∀ q : Nat, s.heap.size ≤ q → A q := fun q h => by rw [← hAe]; exact Or.inr h
  have hS : va_S A s.heap s.heap [] := va_S.rf
  have hP : va_P g vwCl [(ma, .inr (6, mo_ th zk zp za zb zx zy sn zf zt zw zm zh x0 y0 dx dy zz cu zo zu)), (zz, .inl (cJ, 192, .inr (.inl z))), (zx, .inl (cI, 4096, .inl xs)), (zy, .inl (cI, 4096, .inl ys)), (zf, .inl (cI, 4096, .inl fr)), (zt, .inl (cI, 4096, .inl to1))] s.heap := hP
  have hl := lv_entry ([.ref ma, .int (nI k)]) (n := 4) (Nat.le_of_ble_eq_true rfl)
  rw [lg_entry_eq]
  generalize (lg_sl ([.ref ma, .int (nI k)]) ++ List.replicate (4 - (lg_sl ([.ref ma, .int (nI k)])).length) Slot.unset).toArray = ls at hl ⊢
  have hl : lv_has ls 4 [(0, .ref ma), (1, .int (nI k))] := hl
  have hH0 : s.heap = s.heap := rfl
  have hiX6 := ikX6_isOn_X6
  refine lv_aload_n hx hb dX6_isOn_0 rfl (lv_at hl 0 rfl) ?_
  refine va_get (D := g) (ci := 6) (v := .ref zf) (C := RX6) (T := TX6) (N := 21) hx hb hts hiX6 hown hK hP 0 rfl rfl 8 (by decide) (hts (.fieldLink RX6 28 "ShapeRelatorModel" "from" "[I") (List.mem_of_getElem? (i := 1) rfl)) (fun _ h9 => h9) rfl dX6_isOn_1 ?_
  refine lv_iload_n hx hb dX6_isOn_4 rfl (lv_at hl 1 rfl) ?_
  refine va_iald (D := g) hx hb hK hP 4 0 rfl rfl (vp_in_nI (h3) (by omega)) dX6_isOn_5 ?_
  refine tpi_ (y := (nI p1)) (by rw [nI_clamp (by omega), h4]) ?_
  refine lv_istore_n (lv' := [(2, .int (nI p1)), (0, .ref ma), (1, .int (nI k))]) hx hb dX6_isOn_6 rfl hl (by decide) rfl (fun ls hl => ?_)
  refine lv_aload_n hx hb dX6_isOn_7 rfl (lv_at hl 1 rfl) ?_
  refine va_get (D := g) (ci := 6) (v := .ref zt) (C := RX6) (T := TX6) (N := 21) hx hb hts hiX6 hown hK hP 0 rfl rfl 9 (by decide) (hts (.fieldLink RX6 31 "ShapeRelatorModel" "to" "[I") (List.mem_of_getElem? (i := 2) rfl)) (fun _ h9 => h9) rfl dX6_isOn_8 ?_
  refine lv_iload_n hx hb dX6_isOn_11 rfl (lv_at hl 2 rfl) ?_
  refine va_iald (D := g) hx hb hK hP 5 0 rfl rfl (vp_in_nI (h3) (by omega)) dX6_isOn_12 ?_
  refine tpi_ (y := (nI q1)) (by rw [nI_clamp (by omega), h5]) ?_
  refine lv_istore_n (lv' := [(3, .int (nI q1)), (2, .int (nI p1)), (0, .ref ma), (1, .int (nI k))]) hx hb dX6_isOn_13 rfl hl (by decide) rfl (fun ls hl => ?_)
  refine lv_aload_n hx hb dX6_isOn_14 rfl (lv_at hl 2 rfl) ?_
  refine lv_aload_n hx hb dX6_isOn_15 rfl (lv_at hl 2 rfl) ?_
  refine va_get (D := g) (ci := 6) (v := .ref zx) (C := RX6) (T := TX6) (N := 21) hx hb hts hiX6 hown hK hP 0 rfl rfl 5 (by decide) (hts (.fieldLink RX6 22 "ShapeRelatorModel" "xs" "[I") (List.mem_of_getElem? (i := 3) rfl)) (fun _ h9 => h9) rfl dX6_isOn_16 ?_
  refine lv_iload_n hx hb dX6_isOn_19 rfl (lv_at hl 1 rfl) ?_
  refine va_iald (D := g) hx hb hK hP 2 0 rfl rfl (vp_in_nI (h1) (by omega)) dX6_isOn_20 ?_
  refine tpi_ (y := (xs p1)) (by rw [nI_clamp (by omega)]) ?_
  refine lv_i2l hx hb dX6_isOn_21 rfl ?_
  have hPc := hP.sub (ws' := [(ma, .inr (6, mo_ th zk zp za zb zx zy sn zf zt zw zm zh x0 y0 dx dy zz cu zo zu)), (zz, .inl (cJ, 192, .inr (.inl z)))]) [0, 1] rfl
  have hDc := hD.sub (ws' := [(ma, .inr (6, mo_ th zk zp za zb zx zy sn zf zt zw zm zh x0 y0 dx dy zz cu zo zu)), (zz, .inl (cJ, 192, .inr (.inl z)))]) [0, 1] (by decide) rfl
  have hFc := va_free (wc := [(ma, .inr (6, mo_ th zk zp za zb zx zy sn zf zt zw zm zh x0 y0 dx dy zz cu zo zu)), (zz, .inl (cJ, 192, .inr (.inl z)))]) hD hS hA [0, 1] rfl
  refine va_calli (va_runV (As := [.long ((xs p1).toInt64)]) (rest := []) ⟨hx, hb, hml, hown, hts⟩ (kX6_overX l g cI cJ cZ s.heap.size ma th sn x0 y0 dx dy cu zk zp za zb zx zy zf zt zw zm zh zz zo zu z nm dn ((xs p1).toInt64) hq) (cwV 1 hts gX6_isOn_X6_overX rfl rfl rfl (by decide +kernel) ⟨Nat.le_of_ble_eq_true rfl, Nat.le_of_ble_eq_true rfl⟩) (pv_ hK hPc hDc (va_recv hK hPc (ci := 6) (q0 := 0) rfl rfl)) rfl rfl hl.1 rfl (lv_room (Nat.le_of_ble_eq_true rfl)) dX6_isOn_22 ⟨Nat.zero_le _, Nat.zero_le _⟩) hS (fun q _ h => hFc q h) hFc (fun r1 u t H1 locs ht hvm wza1 hB hz1 hk1 hS => ?_)
  obtain ⟨za1, rfl⟩ : ∃ z, z = u := ⟨_, rfl⟩
  obtain ⟨hP1, hK1, hD1⟩ := hB
  rw [ht] at hP1
  obtain ⟨hP, hD⟩ := va_join (wr := [(zx, .inl (cI, 4096, .inl xs)), (zy, .inl (cI, 4096, .inl ys)), (zf, .inl (cI, 4096, .inl fr)), (zt, .inl (cI, 4096, .inl to1))]) (w1 := [(ma, .inr (6, mo_ th zk zp za zb zx zy sn zf zt zw zm zh x0 y0 dx dy zz cu zo zu)), (zz, .inl (cJ, 192, .inr (.inl za1)))]) hP hD [0, 1] [2, 3, 4, 5] rfl rfl (by decide) (by decide) hk1 hFc hP1 hD1
  clear hPc hDc hFc hP1 hD1 hK1 hk1 hz1 hvm ht
  generalize H1 = H at hP hS ⊢
  have hP : va_P g vwCl [(zx, .inl (cI, 4096, .inl xs)), (zy, .inl (cI, 4096, .inl ys)), (zf, .inl (cI, 4096, .inl fr)), (zt, .inl (cI, 4096, .inl to1)), (ma, .inr (6, mo_ th zk zp za zb zx zy sn zf zt zw zm zh x0 y0 dx dy zz cu zo zu)), (zz, .inl (cJ, 192, .inr (.inl za1)))] H := hP
  have hD : va_D A [(zx, .inl (cI, 4096, .inl xs)), (zy, .inl (cI, 4096, .inl ys)), (zf, .inl (cI, 4096, .inl fr)), (zt, .inl (cI, 4096, .inl to1)), (ma, .inr (6, mo_ th zk zp za zb zx zy sn zf zt zw zm zh x0 y0 dx dy zz cu zo zu)), (zz, .inl (cJ, 192, .inr (.inl za1)))] := hD
  obtain ⟨eza1, qza1⟩ := wza1
  refine lv_aload_n hx hb dX6_isOn_25 rfl (lv_at hl 2 rfl) ?_
  refine lv_aload_n hx hb dX6_isOn_26 rfl (lv_at hl 2 rfl) ?_
  refine va_get (D := g) (ci := 6) (v := .ref zx) (C := RX6) (T := TX6) (N := 21) hx hb hts hiX6 hown hK hP 4 rfl rfl 5 (by decide) (hts (.fieldLink RX6 22 "ShapeRelatorModel" "xs" "[I") (List.mem_of_getElem? (i := 3) rfl)) (fun _ h9 => h9) rfl dX6_isOn_27 ?_
  refine lv_iload_n hx hb dX6_isOn_30 rfl (lv_at hl 0 rfl) ?_
  refine va_iald (D := g) hx hb hK hP 0 0 rfl rfl (vp_in_nI (h2) (by omega)) dX6_isOn_31 ?_
  refine tpi_ (y := (xs q1)) (by rw [nI_clamp (by omega)]) ?_
  refine lv_i2l hx hb dX6_isOn_32 rfl ?_
  have hPc := hP.sub (ws' := [(ma, .inr (6, mo_ th zk zp za zb zx zy sn zf zt zw zm zh x0 y0 dx dy zz cu zo zu)), (zz, .inl (cJ, 192, .inr (.inl za1)))]) [4, 5] rfl
  have hDc := hD.sub (ws' := [(ma, .inr (6, mo_ th zk zp za zb zx zy sn zf zt zw zm zh x0 y0 dx dy zz cu zo zu)), (zz, .inl (cJ, 192, .inr (.inl za1)))]) [4, 5] (by decide) rfl
  have hFc := va_free (wc := [(ma, .inr (6, mo_ th zk zp za zb zx zy sn zf zt zw zm zh x0 y0 dx dy zz cu zo zu)), (zz, .inl (cJ, 192, .inr (.inl za1)))]) hD hS hA [4, 5] rfl
  refine va_calli (va_runV (As := [.long ((xs q1).toInt64)]) (rest := [.int r1]) ⟨hx, hb, hml, hown, hts⟩ (kX6_overX l g cI cJ cZ H.size ma th sn x0 y0 dx dy cu zk zp za zb zx zy zf zt zw zm zh zz zo zu za1 nm dn ((xs q1).toInt64) qza1) (cwV 1 hts gX6_isOn_X6_overX rfl rfl rfl (by decide +kernel) ⟨Nat.le_of_ble_eq_true rfl, Nat.le_of_ble_eq_true rfl⟩) (pv_ hK hPc hDc (va_recv hK hPc (ci := 6) (q0 := 0) rfl rfl)) rfl rfl hl.1 rfl (lv_room (Nat.le_of_ble_eq_true rfl)) dX6_isOn_33 ⟨Nat.zero_le _, Nat.zero_le _⟩) hS (fun q _ h => hFc q h) hFc (fun r2 u t H1 locs ht hvm wza2 hB hz1 hk1 hS => ?_)
  obtain ⟨za2, rfl⟩ : ∃ z, z = u := ⟨_, rfl⟩
  obtain ⟨hP1, hK1, hD1⟩ := hB
  rw [ht] at hP1
  obtain ⟨hP, hD⟩ := va_join (wr := [(zx, .inl (cI, 4096, .inl xs)), (zy, .inl (cI, 4096, .inl ys)), (zf, .inl (cI, 4096, .inl fr)), (zt, .inl (cI, 4096, .inl to1))]) (w1 := [(ma, .inr (6, mo_ th zk zp za zb zx zy sn zf zt zw zm zh x0 y0 dx dy zz cu zo zu)), (zz, .inl (cJ, 192, .inr (.inl za2)))]) hP hD [4, 5] [0, 1, 2, 3] rfl rfl (by decide) (by decide) hk1 hFc hP1 hD1
  clear hPc hDc hFc hP1 hD1 hK1 hk1 hz1 hvm ht
  generalize H1 = H at hP hS ⊢
  have hP : va_P g vwCl [(zx, .inl (cI, 4096, .inl xs)), (zy, .inl (cI, 4096, .inl ys)), (zf, .inl (cI, 4096, .inl fr)), (zt, .inl (cI, 4096, .inl to1)), (ma, .inr (6, mo_ th zk zp za zb zx zy sn zf zt zw zm zh x0 y0 dx dy zz cu zo zu)), (zz, .inl (cJ, 192, .inr (.inl za2)))] H := hP
  have hD : va_D A [(zx, .inl (cI, 4096, .inl xs)), (zy, .inl (cI, 4096, .inl ys)), (zf, .inl (cI, 4096, .inl fr)), (zt, .inl (cI, 4096, .inl to1)), (ma, .inr (6, mo_ th zk zp za zb zx zy sn zf zt zw zm zh x0 y0 dx dy zz cu zo zu)), (zz, .inl (cJ, 192, .inr (.inl za2)))] := hD
  obtain ⟨eza2, qza2⟩ := wza2
  refine lv_imul hx hb dX6_isOn_36 ?_
  refine lv_if_gt (tgt := 79) hx hb dX6_isOn_37 (by decide) (fun c1 => ?_) (fun c1 => ?_)
  · refine lv_iconst (v := 0) hx hb dX6_isOn_79 (by decide) ?_
    have hP9 := hP.sub (ws' := [(ma, .inr (6, mo_ th zk zp za zb zx zy sn zf zt zw zm zh x0 y0 dx dy zz cu zo zu)), (zz, .inl (cJ, 192, .inr (.inl za2))), (zx, .inl (cI, 4096, .inl xs)), (zy, .inl (cI, 4096, .inl ys)), (zf, .inl (cI, 4096, .inl fr)), (zt, .inl (cI, 4096, .inl to1))]) [4, 5, 0, 1, 2, 3] rfl
    have hD9 := hD.sub (ws' := [(ma, .inr (6, mo_ th zk zp za zb zx zy sn zf zt zw zm zh x0 y0 dx dy zz cu zo zu)), (zz, .inl (cJ, 192, .inr (.inl za2))), (zx, .inl (cI, 4096, .inl xs)), (zy, .inl (cI, 4096, .inl ys)), (zf, .inl (cI, 4096, .inl fr)), (zt, .inl (cI, 4096, .inl to1))]) [4, 5, 0, 1, 2, 3] (by decide) rfl
    exact W.zret (v := 0) (ty := .boolean) hx hb hr (by decide +kernel) (fun t ht hW => ⟨⟨0, za2, rfl, ⟨by unfold iso_; rw [if_neg (fun h => h.1 (by rw [← eza1, ← eza2]; exact c1))], qza2⟩, by rw [ht]; exact hP9, va_K.moved hW.alike hK, hD9⟩, hS.F ht⟩) hS.2.2 dX6_isOn_80
  · refine lv_aload_n hx hb dX6_isOn_40 rfl (lv_at hl 2 rfl) ?_
    refine lv_aload_n hx hb dX6_isOn_41 rfl (lv_at hl 2 rfl) ?_
    refine va_get (D := g) (ci := 6) (v := .ref zy) (C := RX6) (T := TX6) (N := 21) hx hb hts hiX6 hown hK hP 4 rfl rfl 6 (by decide) (hts (.fieldLink RX6 25 "ShapeRelatorModel" "ys" "[I") (List.mem_of_getElem? (i := 4) rfl)) (fun _ h9 => h9) rfl dX6_isOn_42 ?_
    refine lv_iload_n hx hb dX6_isOn_45 rfl (lv_at hl 1 rfl) ?_
    refine va_iald (D := g) hx hb hK hP 1 0 rfl rfl (vp_in_nI (h1) (by omega)) dX6_isOn_46 ?_
    refine tpi_ (y := (ys p1)) (by rw [nI_clamp (by omega)]) ?_
    refine lv_i2l hx hb dX6_isOn_47 rfl ?_
    have hPc := hP.sub (ws' := [(ma, .inr (6, mo_ th zk zp za zb zx zy sn zf zt zw zm zh x0 y0 dx dy zz cu zo zu)), (zz, .inl (cJ, 192, .inr (.inl za2)))]) [4, 5] rfl
    have hDc := hD.sub (ws' := [(ma, .inr (6, mo_ th zk zp za zb zx zy sn zf zt zw zm zh x0 y0 dx dy zz cu zo zu)), (zz, .inl (cJ, 192, .inr (.inl za2)))]) [4, 5] (by decide) rfl
    have hFc := va_free (wc := [(ma, .inr (6, mo_ th zk zp za zb zx zy sn zf zt zw zm zh x0 y0 dx dy zz cu zo zu)), (zz, .inl (cJ, 192, .inr (.inl za2)))]) hD hS hA [4, 5] rfl
    refine va_calli (va_runV (As := [.long ((ys p1).toInt64)]) (rest := []) ⟨hx, hb, hml, hown, hts⟩ (kX6_overY l g cI cJ cZ H.size ma th sn x0 y0 dx dy cu zk zp za zb zx zy zf zt zw zm zh zz zo zu za2 nm dn ((ys p1).toInt64) qza2) (cwV 1 hts gX6_isOn_X6_overY rfl rfl rfl (by decide +kernel) ⟨Nat.le_of_ble_eq_true rfl, Nat.le_of_ble_eq_true rfl⟩) (pv_ hK hPc hDc (va_recv hK hPc (ci := 6) (q0 := 0) rfl rfl)) rfl rfl hl.1 rfl (lv_room (Nat.le_of_ble_eq_true rfl)) dX6_isOn_48 ⟨Nat.zero_le _, Nat.zero_le _⟩) hS (fun q _ h => hFc q h) hFc (fun r3 u t H1 locs ht hvm wza3 hB hz1 hk1 hS => ?_)
    obtain ⟨za3, rfl⟩ : ∃ z, z = u := ⟨_, rfl⟩
    obtain ⟨hP1, hK1, hD1⟩ := hB
    rw [ht] at hP1
    obtain ⟨hP, hD⟩ := va_join (wr := [(zx, .inl (cI, 4096, .inl xs)), (zy, .inl (cI, 4096, .inl ys)), (zf, .inl (cI, 4096, .inl fr)), (zt, .inl (cI, 4096, .inl to1))]) (w1 := [(ma, .inr (6, mo_ th zk zp za zb zx zy sn zf zt zw zm zh x0 y0 dx dy zz cu zo zu)), (zz, .inl (cJ, 192, .inr (.inl za3)))]) hP hD [4, 5] [0, 1, 2, 3] rfl rfl (by decide) (by decide) hk1 hFc hP1 hD1
    clear hPc hDc hFc hP1 hD1 hK1 hk1 hz1 hvm ht
    generalize H1 = H at hP hS ⊢
    have hP : va_P g vwCl [(zx, .inl (cI, 4096, .inl xs)), (zy, .inl (cI, 4096, .inl ys)), (zf, .inl (cI, 4096, .inl fr)), (zt, .inl (cI, 4096, .inl to1)), (ma, .inr (6, mo_ th zk zp za zb zx zy sn zf zt zw zm zh x0 y0 dx dy zz cu zo zu)), (zz, .inl (cJ, 192, .inr (.inl za3)))] H := hP
    have hD : va_D A [(zx, .inl (cI, 4096, .inl xs)), (zy, .inl (cI, 4096, .inl ys)), (zf, .inl (cI, 4096, .inl fr)), (zt, .inl (cI, 4096, .inl to1)), (ma, .inr (6, mo_ th zk zp za zb zx zy sn zf zt zw zm zh x0 y0 dx dy zz cu zo zu)), (zz, .inl (cJ, 192, .inr (.inl za3)))] := hD
    obtain ⟨eza3, qza3⟩ := wza3
    refine lv_aload_n hx hb dX6_isOn_51 rfl (lv_at hl 2 rfl) ?_
    refine lv_aload_n hx hb dX6_isOn_52 rfl (lv_at hl 2 rfl) ?_
    refine va_get (D := g) (ci := 6) (v := .ref zy) (C := RX6) (T := TX6) (N := 21) hx hb hts hiX6 hown hK hP 4 rfl rfl 6 (by decide) (hts (.fieldLink RX6 25 "ShapeRelatorModel" "ys" "[I") (List.mem_of_getElem? (i := 4) rfl)) (fun _ h9 => h9) rfl dX6_isOn_53 ?_
    refine lv_iload_n hx hb dX6_isOn_56 rfl (lv_at hl 0 rfl) ?_
    refine va_iald (D := g) hx hb hK hP 1 0 rfl rfl (vp_in_nI (h2) (by omega)) dX6_isOn_57 ?_
    refine tpi_ (y := (ys q1)) (by rw [nI_clamp (by omega)]) ?_
    refine lv_i2l hx hb dX6_isOn_58 rfl ?_
    have hPc := hP.sub (ws' := [(ma, .inr (6, mo_ th zk zp za zb zx zy sn zf zt zw zm zh x0 y0 dx dy zz cu zo zu)), (zz, .inl (cJ, 192, .inr (.inl za3)))]) [4, 5] rfl
    have hDc := hD.sub (ws' := [(ma, .inr (6, mo_ th zk zp za zb zx zy sn zf zt zw zm zh x0 y0 dx dy zz cu zo zu)), (zz, .inl (cJ, 192, .inr (.inl za3)))]) [4, 5] (by decide) rfl
    have hFc := va_free (wc := [(ma, .inr (6, mo_ th zk zp za zb zx zy sn zf zt zw zm zh x0 y0 dx dy zz cu zo zu)), (zz, .inl (cJ, 192, .inr (.inl za3)))]) hD hS hA [4, 5] rfl
    refine va_calli (va_runV (As := [.long ((ys q1).toInt64)]) (rest := [.int r3]) ⟨hx, hb, hml, hown, hts⟩ (kX6_overY l g cI cJ cZ H.size ma th sn x0 y0 dx dy cu zk zp za zb zx zy zf zt zw zm zh zz zo zu za3 nm dn ((ys q1).toInt64) qza3) (cwV 1 hts gX6_isOn_X6_overY rfl rfl rfl (by decide +kernel) ⟨Nat.le_of_ble_eq_true rfl, Nat.le_of_ble_eq_true rfl⟩) (pv_ hK hPc hDc (va_recv hK hPc (ci := 6) (q0 := 0) rfl rfl)) rfl rfl hl.1 rfl (lv_room (Nat.le_of_ble_eq_true rfl)) dX6_isOn_59 ⟨Nat.zero_le _, Nat.zero_le _⟩) hS (fun q _ h => hFc q h) hFc (fun r4 u t H1 locs ht hvm wza4 hB hz1 hk1 hS => ?_)
    obtain ⟨za4, rfl⟩ : ∃ z, z = u := ⟨_, rfl⟩
    obtain ⟨hP1, hK1, hD1⟩ := hB
    rw [ht] at hP1
    obtain ⟨hP, hD⟩ := va_join (wr := [(zx, .inl (cI, 4096, .inl xs)), (zy, .inl (cI, 4096, .inl ys)), (zf, .inl (cI, 4096, .inl fr)), (zt, .inl (cI, 4096, .inl to1))]) (w1 := [(ma, .inr (6, mo_ th zk zp za zb zx zy sn zf zt zw zm zh x0 y0 dx dy zz cu zo zu)), (zz, .inl (cJ, 192, .inr (.inl za4)))]) hP hD [4, 5] [0, 1, 2, 3] rfl rfl (by decide) (by decide) hk1 hFc hP1 hD1
    clear hPc hDc hFc hP1 hD1 hK1 hk1 hz1 hvm ht
    generalize H1 = H at hP hS ⊢
    have hP : va_P g vwCl [(zx, .inl (cI, 4096, .inl xs)), (zy, .inl (cI, 4096, .inl ys)), (zf, .inl (cI, 4096, .inl fr)), (zt, .inl (cI, 4096, .inl to1)), (ma, .inr (6, mo_ th zk zp za zb zx zy sn zf zt zw zm zh x0 y0 dx dy zz cu zo zu)), (zz, .inl (cJ, 192, .inr (.inl za4)))] H := hP
    have hD : va_D A [(zx, .inl (cI, 4096, .inl xs)), (zy, .inl (cI, 4096, .inl ys)), (zf, .inl (cI, 4096, .inl fr)), (zt, .inl (cI, 4096, .inl to1)), (ma, .inr (6, mo_ th zk zp za zb zx zy sn zf zt zw zm zh x0 y0 dx dy zz cu zo zu)), (zz, .inl (cJ, 192, .inr (.inl za4)))] := hD
    obtain ⟨eza4, qza4⟩ := wza4
    refine lv_imul hx hb dX6_isOn_62 ?_
    refine lv_if_gt (tgt := 79) hx hb dX6_isOn_63 (by decide) (fun c2 => ?_) (fun c2 => ?_)
    · refine lv_iconst (v := 0) hx hb dX6_isOn_79 (by decide) ?_
      have hP9 := hP.sub (ws' := [(ma, .inr (6, mo_ th zk zp za zb zx zy sn zf zt zw zm zh x0 y0 dx dy zz cu zo zu)), (zz, .inl (cJ, 192, .inr (.inl za4))), (zx, .inl (cI, 4096, .inl xs)), (zy, .inl (cI, 4096, .inl ys)), (zf, .inl (cI, 4096, .inl fr)), (zt, .inl (cI, 4096, .inl to1))]) [4, 5, 0, 1, 2, 3] rfl
      have hD9 := hD.sub (ws' := [(ma, .inr (6, mo_ th zk zp za zb zx zy sn zf zt zw zm zh x0 y0 dx dy zz cu zo zu)), (zz, .inl (cJ, 192, .inr (.inl za4))), (zx, .inl (cI, 4096, .inl xs)), (zy, .inl (cI, 4096, .inl ys)), (zf, .inl (cI, 4096, .inl fr)), (zt, .inl (cI, 4096, .inl to1))]) [4, 5, 0, 1, 2, 3] (by decide) rfl
      exact W.zret (v := 0) (ty := .boolean) hx hb hr (by decide +kernel) (fun t ht hW => ⟨⟨0, za4, rfl, ⟨by unfold iso_; rw [if_neg (fun h => h.2.1 (by rw [← eza3, ← eza4]; exact c2))], qza4⟩, by rw [ht]; exact hP9, va_K.moved hW.alike hK, hD9⟩, hS.F ht⟩) hS.2.2 dX6_isOn_80
    · refine lv_aload_n hx hb dX6_isOn_66 rfl (lv_at hl 2 rfl) ?_
      refine lv_iload_n hx hb dX6_isOn_67 rfl (lv_at hl 1 rfl) ?_
      refine lv_iload_n hx hb dX6_isOn_68 rfl (lv_at hl 0 rfl) ?_
      have hPc := hP.sub (ws' := [(ma, .inr (6, mo_ th zk zp za zb zx zy sn zf zt zw zm zh x0 y0 dx dy zz cu zo zu)), (zz, .inl (cJ, 192, .inr (.inl za4))), (zx, .inl (cI, 4096, .inl xs)), (zy, .inl (cI, 4096, .inl ys))]) [4, 5, 0, 1] rfl
      have hDc := hD.sub (ws' := [(ma, .inr (6, mo_ th zk zp za zb zx zy sn zf zt zw zm zh x0 y0 dx dy zz cu zo zu)), (zz, .inl (cJ, 192, .inr (.inl za4))), (zx, .inl (cI, 4096, .inl xs)), (zy, .inl (cI, 4096, .inl ys))]) [4, 5, 0, 1] (by decide) rfl
      have hFc := va_free (wc := [(ma, .inr (6, mo_ th zk zp za zb zx zy sn zf zt zw zm zh x0 y0 dx dy zz cu zo zu)), (zz, .inl (cJ, 192, .inr (.inl za4))), (zx, .inl (cI, 4096, .inl xs)), (zy, .inl (cI, 4096, .inl ys))]) hD hS hA [4, 5, 0, 1] rfl
      refine va_calli (va_runV (As := [.int (nI p1), .int (nI q1)]) (rest := []) ⟨hx, hb, hml, hown, hts⟩ (kX6_side l g cI cJ cZ H.size ma th sn x0 y0 dx dy cu zk zp za zb zx zy zf zt zw zm zh zz zo zu za4 xs ys nm dn p1 q1 qza4 h1 h2) (cwV 2 hts gX6_isOn_X6_side rfl rfl rfl (by decide +kernel) ⟨Nat.le_of_ble_eq_true rfl, Nat.le_of_ble_eq_true rfl⟩) (pv_ hK hPc hDc (va_recv hK hPc (ci := 6) (q0 := 0) rfl rfl)) rfl rfl hl.1 rfl (lv_room (Nat.le_of_ble_eq_true rfl)) dX6_isOn_69 ⟨Nat.zero_le _, Nat.zero_le _⟩) hS (fun q _ h => hFc q h) hFc (fun r5 u t H1 locs ht hvm wza5 hB hz1 hk1 hS => ?_)
      obtain ⟨za5, rfl⟩ : ∃ z, z = u := ⟨_, rfl⟩
      obtain ⟨hP1, hK1, hD1⟩ := hB
      rw [ht] at hP1
      obtain ⟨hP, hD⟩ := va_join (wr := [(zf, .inl (cI, 4096, .inl fr)), (zt, .inl (cI, 4096, .inl to1))]) (w1 := [(ma, .inr (6, mo_ th zk zp za zb zx zy sn zf zt zw zm zh x0 y0 dx dy zz cu zo zu)), (zz, .inl (cJ, 192, .inr (.inl za5))), (zx, .inl (cI, 4096, .inl xs)), (zy, .inl (cI, 4096, .inl ys))]) hP hD [4, 5, 0, 1] [2, 3] rfl rfl (by decide) (by decide) hk1 hFc hP1 hD1
      clear hPc hDc hFc hP1 hD1 hK1 hk1 hz1 hvm ht
      generalize H1 = H at hP hS ⊢
      have hP : va_P g vwCl [(zf, .inl (cI, 4096, .inl fr)), (zt, .inl (cI, 4096, .inl to1)), (ma, .inr (6, mo_ th zk zp za zb zx zy sn zf zt zw zm zh x0 y0 dx dy zz cu zo zu)), (zz, .inl (cJ, 192, .inr (.inl za5))), (zx, .inl (cI, 4096, .inl xs)), (zy, .inl (cI, 4096, .inl ys))] H := hP
      have hD : va_D A [(zf, .inl (cI, 4096, .inl fr)), (zt, .inl (cI, 4096, .inl to1)), (ma, .inr (6, mo_ th zk zp za zb zx zy sn zf zt zw zm zh x0 y0 dx dy zz cu zo zu)), (zz, .inl (cJ, 192, .inr (.inl za5))), (zx, .inl (cI, 4096, .inl xs)), (zy, .inl (cI, 4096, .inl ys))] := hD
      obtain ⟨eza5, qza5⟩ := wza5
      refine lv_if_ne (tgt := 79) hx hb dX6_isOn_72 (by decide) (fun c3 => ?_) (fun c3 => ?_)
      · refine lv_iconst (v := 0) hx hb dX6_isOn_79 (by decide) ?_
        have hP9 := hP.sub (ws' := [(ma, .inr (6, mo_ th zk zp za zb zx zy sn zf zt zw zm zh x0 y0 dx dy zz cu zo zu)), (zz, .inl (cJ, 192, .inr (.inl za5))), (zx, .inl (cI, 4096, .inl xs)), (zy, .inl (cI, 4096, .inl ys)), (zf, .inl (cI, 4096, .inl fr)), (zt, .inl (cI, 4096, .inl to1))]) [2, 3, 4, 5, 0, 1] rfl
        have hD9 := hD.sub (ws' := [(ma, .inr (6, mo_ th zk zp za zb zx zy sn zf zt zw zm zh x0 y0 dx dy zz cu zo zu)), (zz, .inl (cJ, 192, .inr (.inl za5))), (zx, .inl (cI, 4096, .inl xs)), (zy, .inl (cI, 4096, .inl ys)), (zf, .inl (cI, 4096, .inl fr)), (zt, .inl (cI, 4096, .inl to1))]) [2, 3, 4, 5, 0, 1] (by decide) rfl
        exact W.zret (v := 0) (ty := .boolean) hx hb hr (by decide +kernel) (fun t ht hW => ⟨⟨0, za5, rfl, ⟨by unfold iso_; rw [if_neg (fun h => c3 (by rw [eza5]; exact h.2.2))], qza5⟩, by rw [ht]; exact hP9, va_K.moved hW.alike hK, hD9⟩, hS.F ht⟩) hS.2.2 dX6_isOn_80
      · refine lv_iconst (v := 1) hx hb dX6_isOn_75 (by decide) ?_
        refine lv_goto (tgt := 80) hx hb dX6_isOn_76 (by decide) ?_
        have hP9 := hP.sub (ws' := [(ma, .inr (6, mo_ th zk zp za zb zx zy sn zf zt zw zm zh x0 y0 dx dy zz cu zo zu)), (zz, .inl (cJ, 192, .inr (.inl za5))), (zx, .inl (cI, 4096, .inl xs)), (zy, .inl (cI, 4096, .inl ys)), (zf, .inl (cI, 4096, .inl fr)), (zt, .inl (cI, 4096, .inl to1))]) [2, 3, 4, 5, 0, 1] rfl
        have hD9 := hD.sub (ws' := [(ma, .inr (6, mo_ th zk zp za zb zx zy sn zf zt zw zm zh x0 y0 dx dy zz cu zo zu)), (zz, .inl (cJ, 192, .inr (.inl za5))), (zx, .inl (cI, 4096, .inl xs)), (zy, .inl (cI, 4096, .inl ys)), (zf, .inl (cI, 4096, .inl fr)), (zt, .inl (cI, 4096, .inl to1))]) [2, 3, 4, 5, 0, 1] (by decide) rfl
        exact W.zret (v := 1) (ty := .boolean) hx hb hr (by decide +kernel) (fun t ht hW => ⟨⟨1, za5, rfl, ⟨by unfold iso_; rw [if_pos ⟨by rw [← eza1, ← eza2]; exact c1, by rw [← eza3, ← eza4]; exact c2, by rw [← eza5]; exact c3⟩], qza5⟩, by rw [ht]; exact hP9, va_K.moved hW.alike hK, hD9⟩, hS.F ht⟩) hS.2.2 dX6_isOn_80

theorem ikX6_crosses_X6 : ∀ w ∈ wsX60, w ∈ wsX6_crosses := by decide +kernel
set_option maxHeartbeats 1000000 in
set_option maxRecDepth 100000 in
theorem kX6_crosses (l : Launch) (g : va_G) (cI cJ cZ : ClassId) (sz : Nat) (ma : Nat) (th : Int32) (sn : Int32) (x0 : Int64) (y0 : Int64) (dx : Int64) (dy : Int64) (cu : Int32) (zk : Nat) (zp : Nat) (za : Nat) (zb : Nat) (zx : Nat) (zy : Nat) (zf : Nat) (zt : Nat) (zw : Nat) (zm : Nat) (zh : Nat) (zz : Nat) (zo : Nat) (zu : Nat) (z : Nat → Int64) (xs : Nat → Int32) (ys : Nat → Int32) (fr : Nat → Int32) (to1 : Nat → Int32) (nm : Int) (dn : Int) (k : Nat) (p1 : Nat) (q1 : Nat) (hq : gq_ z nm dn) (h1 : p1 < 4096) (h2 : q1 < 4096) (h3 : k < 4096) (h4 : fr k = nI p1) (h5 : to1 k = nI q1) : Met l yX6_crosses wsX6_crosses ({ frames := 4, cells := 0, slots := 0, locals := 101 }) (pc_ g cI cJ cZ [.ref ma, .int (nI k)] [(ma, .inr (6, mo_ th zk zp za zb zx zy sn zf zt zw zm zh x0 y0 dx dy zz cu zo zu)), (zz, .inl (cJ, 192, .inr (.inl z))), (zx, .inl (cI, 4096, .inl xs)), (zy, .inl (cI, 4096, .inl ys)), (zf, .inl (cI, 4096, .inl fr)), (zt, .inl (cI, 4096, .inl to1))] sz) (va_Qi (fun (r : Int32) (z2 : (Nat → Int64)) => r = crx_ xs ys x0 y0 dx dy nm dn p1 q1 ∧ gq_ z2 nm dn) (fun (z2 : (Nat → Int64)) t => wd_ g cI cJ cZ (va_A [(ma, .inr (6, mo_ th zk zp za zb zx zy sn zf zt zw zm zh x0 y0 dx dy zz cu zo zu)), (zz, .inl (cJ, 192, .inr (.inl z))), (zx, .inl (cI, 4096, .inl xs)), (zy, .inl (cI, 4096, .inl ys)), (zf, .inl (cI, 4096, .inl fr)), (zt, .inl (cI, 4096, .inl to1))] sz) [(ma, .inr (6, mo_ th zk zp za zb zx zy sn zf zt zw zm zh x0 y0 dx dy zz cu zo zu)), (zz, .inl (cJ, 192, .inr (.inl z2))), (zx, .inl (cI, 4096, .inl xs)), (zy, .inl (cI, 4096, .inl ys)), (zf, .inl (cI, 4096, .inl fr)), (zt, .inl (cI, 4096, .inl to1))] t) (va_A [(ma, .inr (6, mo_ th zk zp za zb zx zy sn zf zt zw zm zh x0 y0 dx dy zz cu zo zu)), (zz, .inl (cJ, 192, .inr (.inl z))), (zx, .inl (cI, 4096, .inl xs)), (zy, .inl (cI, 4096, .inl ys)), (zf, .inl (cI, 4096, .inl fr)), (zt, .inl (cI, 4096, .inl to1))] sz)) (0) (0) (va_A [(ma, .inr (6, mo_ th zk zp za zb zx zy sn zf zt zw zm zh x0 y0 dx dy zz cu zo zu)), (zz, .inl (cJ, 192, .inr (.inl z))), (zx, .inl (cI, 4096, .inl xs)), (zy, .inl (cI, 4096, .inl ys)), (zf, .inl (cI, 4096, .inl fr)), (zt, .inl (cI, 4096, .inl to1))] sz) := by
  refine Met.ofW (cc := cX6_crosses) (maxL := 4) (ret := (some .boolean)) (by decide) rfl ?_
  intro p e s m args below meth c s₁ B hml hv
  obtain ⟨rfl, hsz, hP, hK, hD0⟩ := hv
  have hx := B.exec
  have hb := B.bytes
  have hr := B.returns
  have hts := atoms_spec (ws := wsX6_crosses) B.pre
  have hown : s.vm.findClass RX6 = some m.cls := findClass_of_methodNamed B.named
  have hlocks := B.notSynchronized
  subst hsz
  have hD := hD0.self (sz := s.heap.size)
  generalize hAe : va_A [(ma, .inr (6, mo_ th zk zp za zb zx zy sn zf zt zw zm zh x0 y0 dx dy zz cu zo zu)), (zz, .inl (cJ, 192, .inr (.inl z))), (zx, .inl (cI, 4096, .inl xs)), (zy, .inl (cI, 4096, .inl ys)), (zf, .inl (cI, 4096, .inl fr)), (zt, .inl (cI, 4096, .inl to1))] s.heap.size = A at hD ⊢
  have hA : ∀ q : Nat, s.heap.size ≤ q → A q := fun q h => by rw [← hAe]; exact Or.inr h
  have hS : va_S A s.heap s.heap [] := va_S.rf
  have hP : va_P g vwCl [(ma, .inr (6, mo_ th zk zp za zb zx zy sn zf zt zw zm zh x0 y0 dx dy zz cu zo zu)), (zz, .inl (cJ, 192, .inr (.inl z))), (zx, .inl (cI, 4096, .inl xs)), (zy, .inl (cI, 4096, .inl ys)), (zf, .inl (cI, 4096, .inl fr)), (zt, .inl (cI, 4096, .inl to1))] s.heap := hP
  have hl := lv_entry ([.ref ma, .int (nI k)]) (n := 4) (Nat.le_of_ble_eq_true rfl)
  rw [lg_entry_eq]
  generalize (lg_sl ([.ref ma, .int (nI k)]) ++ List.replicate (4 - (lg_sl ([.ref ma, .int (nI k)])).length) Slot.unset).toArray = ls at hl ⊢
  have hl : lv_has ls 4 [(0, .ref ma), (1, .int (nI k))] := hl
  have hH0 : s.heap = s.heap := rfl
  have hiX6 := ikX6_crosses_X6
  refine lv_aload_n hx hb dX6_crosses_0 rfl (lv_at hl 0 rfl) ?_
  refine lv_aload_n hx hb dX6_crosses_1 rfl (lv_at hl 0 rfl) ?_
  refine va_get (D := g) (ci := 6) (v := .ref zy) (C := RX6) (T := TX6) (N := 21) hx hb hts hiX6 hown hK hP 0 rfl rfl 6 (by decide) (hts (.fieldLink RX6 25 "ShapeRelatorModel" "ys" "[I") (List.mem_of_getElem? (i := 1) rfl)) (fun _ h9 => h9) rfl dX6_crosses_2 ?_
  refine lv_aload_n hx hb dX6_crosses_5 rfl (lv_at hl 0 rfl) ?_
  refine va_get (D := g) (ci := 6) (v := .ref zf) (C := RX6) (T := TX6) (N := 21) hx hb hts hiX6 hown hK hP 0 rfl rfl 8 (by decide) (hts (.fieldLink RX6 28 "ShapeRelatorModel" "from" "[I") (List.mem_of_getElem? (i := 2) rfl)) (fun _ h9 => h9) rfl dX6_crosses_6 ?_
  refine lv_iload_n hx hb dX6_crosses_9 rfl (lv_at hl 1 rfl) ?_
  refine va_iald (D := g) hx hb hK hP 4 0 rfl rfl (vp_in_nI (h3) (by omega)) dX6_crosses_10 ?_
  refine tpi_ (y := (nI p1)) (by rw [nI_clamp (by omega), h4]) ?_
  refine va_iald (D := g) hx hb hK hP 3 0 rfl rfl (vp_in_nI (h1) (by omega)) dX6_crosses_11 ?_
  refine tpi_ (y := (ys p1)) (by rw [nI_clamp (by omega)]) ?_
  refine lv_i2l hx hb dX6_crosses_12 rfl ?_
  have hPc := hP.sub (ws' := [(ma, .inr (6, mo_ th zk zp za zb zx zy sn zf zt zw zm zh x0 y0 dx dy zz cu zo zu)), (zz, .inl (cJ, 192, .inr (.inl z)))]) [0, 1] rfl
  have hDc := hD.sub (ws' := [(ma, .inr (6, mo_ th zk zp za zb zx zy sn zf zt zw zm zh x0 y0 dx dy zz cu zo zu)), (zz, .inl (cJ, 192, .inr (.inl z)))]) [0, 1] (by decide) rfl
  have hFc := va_free (wc := [(ma, .inr (6, mo_ th zk zp za zb zx zy sn zf zt zw zm zh x0 y0 dx dy zz cu zo zu)), (zz, .inl (cJ, 192, .inr (.inl z)))]) hD hS hA [0, 1] rfl
  refine va_calli (va_runV (As := [.long ((ys p1).toInt64)]) (rest := []) ⟨hx, hb, hml, hown, hts⟩ (kX6_overY l g cI cJ cZ s.heap.size ma th sn x0 y0 dx dy cu zk zp za zb zx zy zf zt zw zm zh zz zo zu z nm dn ((ys p1).toInt64) hq) (cwV 1 hts gX6_crosses_X6_overY rfl rfl rfl (by decide +kernel) ⟨Nat.le_of_ble_eq_true rfl, Nat.le_of_ble_eq_true rfl⟩) (pv_ hK hPc hDc (va_recv hK hPc (ci := 6) (q0 := 0) rfl rfl)) rfl rfl hl.1 rfl (lv_room (Nat.le_of_ble_eq_true rfl)) dX6_crosses_13 ⟨Nat.zero_le _, Nat.zero_le _⟩) hS (fun q _ h => hFc q h) hFc (fun r1 u t H1 locs ht hvm wza1 hB hz1 hk1 hS => ?_)
  obtain ⟨za1, rfl⟩ : ∃ z, z = u := ⟨_, rfl⟩
  obtain ⟨hP1, hK1, hD1⟩ := hB
  rw [ht] at hP1
  obtain ⟨hP, hD⟩ := va_join (wr := [(zx, .inl (cI, 4096, .inl xs)), (zy, .inl (cI, 4096, .inl ys)), (zf, .inl (cI, 4096, .inl fr)), (zt, .inl (cI, 4096, .inl to1))]) (w1 := [(ma, .inr (6, mo_ th zk zp za zb zx zy sn zf zt zw zm zh x0 y0 dx dy zz cu zo zu)), (zz, .inl (cJ, 192, .inr (.inl za1)))]) hP hD [0, 1] [2, 3, 4, 5] rfl rfl (by decide) (by decide) hk1 hFc hP1 hD1
  clear hPc hDc hFc hP1 hD1 hK1 hk1 hz1 hvm ht
  generalize H1 = H at hP hS ⊢
  have hP : va_P g vwCl [(zx, .inl (cI, 4096, .inl xs)), (zy, .inl (cI, 4096, .inl ys)), (zf, .inl (cI, 4096, .inl fr)), (zt, .inl (cI, 4096, .inl to1)), (ma, .inr (6, mo_ th zk zp za zb zx zy sn zf zt zw zm zh x0 y0 dx dy zz cu zo zu)), (zz, .inl (cJ, 192, .inr (.inl za1)))] H := hP
  have hD : va_D A [(zx, .inl (cI, 4096, .inl xs)), (zy, .inl (cI, 4096, .inl ys)), (zf, .inl (cI, 4096, .inl fr)), (zt, .inl (cI, 4096, .inl to1)), (ma, .inr (6, mo_ th zk zp za zb zx zy sn zf zt zw zm zh x0 y0 dx dy zz cu zo zu)), (zz, .inl (cJ, 192, .inr (.inl za1)))] := hD
  obtain ⟨eza1, qza1⟩ := wza1
  subst eza1
  refine jnV (α := Int32) (ls := ls) (pc2 := 24) (fun v => v = bo_ (ovx_ y0 dy nm dn (ys p1).toInt64 < 0)) (fun v => [.int v]) (fun J => ?_) (fun v hv => ?_)
  · refine lv_if_ge (tgt := 23) hx hb dX6_crosses_16 (by decide) (fun cj => ?_) (fun cj => ?_)
    · refine lv_iconst (v := 0) hx hb dX6_crosses_23 (by decide) ?_
      exact J _ (bo_f (Int32.not_lt.mpr cj))
    · refine lv_iconst (v := 1) hx hb dX6_crosses_19 (by decide) ?_
      refine lv_goto (tgt := 24) hx hb dX6_crosses_20 (by decide) ?_
      exact J _ (bo_t (Int32.not_le.mp cj))
  · subst hv
    refine lv_istore_n (lv' := [(2, .int (bo_ (ovx_ y0 dy nm dn (ys p1).toInt64 < 0))), (0, .ref ma), (1, .int (nI k))]) hx hb dX6_crosses_24 rfl hl (by decide) rfl (fun ls hl => ?_)
    refine lv_aload_n hx hb dX6_crosses_25 rfl (lv_at hl 1 rfl) ?_
    refine lv_aload_n hx hb dX6_crosses_26 rfl (lv_at hl 1 rfl) ?_
    refine va_get (D := g) (ci := 6) (v := .ref zy) (C := RX6) (T := TX6) (N := 21) hx hb hts hiX6 hown hK hP 4 rfl rfl 6 (by decide) (hts (.fieldLink RX6 25 "ShapeRelatorModel" "ys" "[I") (List.mem_of_getElem? (i := 1) rfl)) (fun _ h9 => h9) rfl dX6_crosses_27 ?_
    refine lv_aload_n hx hb dX6_crosses_30 rfl (lv_at hl 1 rfl) ?_
    refine va_get (D := g) (ci := 6) (v := .ref zt) (C := RX6) (T := TX6) (N := 21) hx hb hts hiX6 hown hK hP 4 rfl rfl 9 (by decide) (hts (.fieldLink RX6 31 "ShapeRelatorModel" "to" "[I") (List.mem_of_getElem? (i := 3) rfl)) (fun _ h9 => h9) rfl dX6_crosses_31 ?_
    refine lv_iload_n hx hb dX6_crosses_34 rfl (lv_at hl 2 rfl) ?_
    refine va_iald (D := g) hx hb hK hP 3 0 rfl rfl (vp_in_nI (h3) (by omega)) dX6_crosses_35 ?_
    refine tpi_ (y := (nI q1)) (by rw [nI_clamp (by omega), h5]) ?_
    refine va_iald (D := g) hx hb hK hP 1 0 rfl rfl (vp_in_nI (h2) (by omega)) dX6_crosses_36 ?_
    refine tpi_ (y := (ys q1)) (by rw [nI_clamp (by omega)]) ?_
    refine lv_i2l hx hb dX6_crosses_37 rfl ?_
    have hPc := hP.sub (ws' := [(ma, .inr (6, mo_ th zk zp za zb zx zy sn zf zt zw zm zh x0 y0 dx dy zz cu zo zu)), (zz, .inl (cJ, 192, .inr (.inl za1)))]) [4, 5] rfl
    have hDc := hD.sub (ws' := [(ma, .inr (6, mo_ th zk zp za zb zx zy sn zf zt zw zm zh x0 y0 dx dy zz cu zo zu)), (zz, .inl (cJ, 192, .inr (.inl za1)))]) [4, 5] (by decide) rfl
    have hFc := va_free (wc := [(ma, .inr (6, mo_ th zk zp za zb zx zy sn zf zt zw zm zh x0 y0 dx dy zz cu zo zu)), (zz, .inl (cJ, 192, .inr (.inl za1)))]) hD hS hA [4, 5] rfl
    refine va_calli (va_runV (As := [.long ((ys q1).toInt64)]) (rest := []) ⟨hx, hb, hml, hown, hts⟩ (kX6_overY l g cI cJ cZ H.size ma th sn x0 y0 dx dy cu zk zp za zb zx zy zf zt zw zm zh zz zo zu za1 nm dn ((ys q1).toInt64) qza1) (cwV 1 hts gX6_crosses_X6_overY rfl rfl rfl (by decide +kernel) ⟨Nat.le_of_ble_eq_true rfl, Nat.le_of_ble_eq_true rfl⟩) (pv_ hK hPc hDc (va_recv hK hPc (ci := 6) (q0 := 0) rfl rfl)) rfl rfl hl.1 rfl (lv_room (Nat.le_of_ble_eq_true rfl)) dX6_crosses_38 ⟨Nat.zero_le _, Nat.zero_le _⟩) hS (fun q _ h => hFc q h) hFc (fun r2 u t H1 locs ht hvm wza2 hB hz1 hk1 hS => ?_)
    obtain ⟨za2, rfl⟩ : ∃ z, z = u := ⟨_, rfl⟩
    obtain ⟨hP1, hK1, hD1⟩ := hB
    rw [ht] at hP1
    obtain ⟨hP, hD⟩ := va_join (wr := [(zx, .inl (cI, 4096, .inl xs)), (zy, .inl (cI, 4096, .inl ys)), (zf, .inl (cI, 4096, .inl fr)), (zt, .inl (cI, 4096, .inl to1))]) (w1 := [(ma, .inr (6, mo_ th zk zp za zb zx zy sn zf zt zw zm zh x0 y0 dx dy zz cu zo zu)), (zz, .inl (cJ, 192, .inr (.inl za2)))]) hP hD [4, 5] [0, 1, 2, 3] rfl rfl (by decide) (by decide) hk1 hFc hP1 hD1
    clear hPc hDc hFc hP1 hD1 hK1 hk1 hz1 hvm ht
    generalize H1 = H at hP hS ⊢
    have hP : va_P g vwCl [(zx, .inl (cI, 4096, .inl xs)), (zy, .inl (cI, 4096, .inl ys)), (zf, .inl (cI, 4096, .inl fr)), (zt, .inl (cI, 4096, .inl to1)), (ma, .inr (6, mo_ th zk zp za zb zx zy sn zf zt zw zm zh x0 y0 dx dy zz cu zo zu)), (zz, .inl (cJ, 192, .inr (.inl za2)))] H := hP
    have hD : va_D A [(zx, .inl (cI, 4096, .inl xs)), (zy, .inl (cI, 4096, .inl ys)), (zf, .inl (cI, 4096, .inl fr)), (zt, .inl (cI, 4096, .inl to1)), (ma, .inr (6, mo_ th zk zp za zb zx zy sn zf zt zw zm zh x0 y0 dx dy zz cu zo zu)), (zz, .inl (cJ, 192, .inr (.inl za2)))] := hD
    obtain ⟨eza2, qza2⟩ := wza2
    subst eza2
    refine jnV (α := Int32) (ls := ls) (pc2 := 49) (fun v => v = bo_ (ovx_ y0 dy nm dn (ys q1).toInt64 < 0)) (fun v => [.int v]) (fun J => ?_) (fun v hv => ?_)
    · refine lv_if_ge (tgt := 48) hx hb dX6_crosses_41 (by decide) (fun cj => ?_) (fun cj => ?_)
      · refine lv_iconst (v := 0) hx hb dX6_crosses_48 (by decide) ?_
        exact J _ (bo_f (Int32.not_lt.mpr cj))
      · refine lv_iconst (v := 1) hx hb dX6_crosses_44 (by decide) ?_
        refine lv_goto (tgt := 49) hx hb dX6_crosses_45 (by decide) ?_
        exact J _ (bo_t (Int32.not_le.mp cj))
    · subst hv
      refine lv_istore_n (lv' := [(3, .int (bo_ (ovx_ y0 dy nm dn (ys q1).toInt64 < 0))), (2, .int (bo_ (ovx_ y0 dy nm dn (ys p1).toInt64 < 0))), (0, .ref ma), (1, .int (nI k))]) hx hb dX6_crosses_49 rfl hl (by decide) rfl (fun ls hl => ?_)
      refine lv_iload_n hx hb dX6_crosses_50 rfl (lv_at hl 1 rfl) ?_
      refine lv_iload_n hx hb dX6_crosses_51 rfl (lv_at hl 0 rfl) ?_
      refine lv_icmp_ne (tgt := 57) hx hb dX6_crosses_52 (by decide) (fun c1 => ?_) (fun c1 => ?_)
      · refine lv_iload_n hx hb dX6_crosses_57 rfl (lv_at hl 1 rfl) ?_
        refine lv_if_eq (tgt := 88) hx hb dX6_crosses_58 (by decide) (fun c2 => ?_) (fun c2 => ?_)
        · refine lv_aload_n hx hb dX6_crosses_88 rfl (lv_at hl 2 rfl) ?_
          refine lv_aload_n hx hb dX6_crosses_89 rfl (lv_at hl 2 rfl) ?_
          refine va_get (D := g) (ci := 6) (v := .ref zf) (C := RX6) (T := TX6) (N := 21) hx hb hts hiX6 hown hK hP 4 rfl rfl 8 (by decide) (hts (.fieldLink RX6 28 "ShapeRelatorModel" "from" "[I") (List.mem_of_getElem? (i := 2) rfl)) (fun _ h9 => h9) rfl dX6_crosses_90 ?_
          refine lv_iload_n hx hb dX6_crosses_93 rfl (lv_at hl 3 rfl) ?_
          refine va_iald (D := g) hx hb hK hP 2 0 rfl rfl (vp_in_nI (h3) (by omega)) dX6_crosses_94 ?_
          refine tpi_ (y := (nI p1)) (by rw [nI_clamp (by omega), h4]) ?_
          refine lv_aload_n hx hb dX6_crosses_95 rfl (lv_at hl 2 rfl) ?_
          refine va_get (D := g) (ci := 6) (v := .ref zt) (C := RX6) (T := TX6) (N := 21) hx hb hts hiX6 hown hK hP 4 rfl rfl 9 (by decide) (hts (.fieldLink RX6 31 "ShapeRelatorModel" "to" "[I") (List.mem_of_getElem? (i := 3) rfl)) (fun _ h9 => h9) rfl dX6_crosses_96 ?_
          refine lv_iload_n hx hb dX6_crosses_99 rfl (lv_at hl 3 rfl) ?_
          refine va_iald (D := g) hx hb hK hP 3 0 rfl rfl (vp_in_nI (h3) (by omega)) dX6_crosses_100 ?_
          refine tpi_ (y := (nI q1)) (by rw [nI_clamp (by omega), h5]) ?_
          have hPc := hP.sub (ws' := [(ma, .inr (6, mo_ th zk zp za zb zx zy sn zf zt zw zm zh x0 y0 dx dy zz cu zo zu)), (zz, .inl (cJ, 192, .inr (.inl za2))), (zx, .inl (cI, 4096, .inl xs)), (zy, .inl (cI, 4096, .inl ys))]) [4, 5, 0, 1] rfl
          have hDc := hD.sub (ws' := [(ma, .inr (6, mo_ th zk zp za zb zx zy sn zf zt zw zm zh x0 y0 dx dy zz cu zo zu)), (zz, .inl (cJ, 192, .inr (.inl za2))), (zx, .inl (cI, 4096, .inl xs)), (zy, .inl (cI, 4096, .inl ys))]) [4, 5, 0, 1] (by decide) rfl
          have hFc := va_free (wc := [(ma, .inr (6, mo_ th zk zp za zb zx zy sn zf zt zw zm zh x0 y0 dx dy zz cu zo zu)), (zz, .inl (cJ, 192, .inr (.inl za2))), (zx, .inl (cI, 4096, .inl xs)), (zy, .inl (cI, 4096, .inl ys))]) hD hS hA [4, 5, 0, 1] rfl
          refine va_calli (va_runV (As := [.int (nI p1), .int (nI q1)]) (rest := []) ⟨hx, hb, hml, hown, hts⟩ (kX6_side l g cI cJ cZ H.size ma th sn x0 y0 dx dy cu zk zp za zb zx zy zf zt zw zm zh zz zo zu za2 xs ys nm dn p1 q1 qza2 h1 h2) (cwV 2 hts gX6_crosses_X6_side rfl rfl rfl (by decide +kernel) ⟨Nat.le_of_ble_eq_true rfl, Nat.le_of_ble_eq_true rfl⟩) (pv_ hK hPc hDc (va_recv hK hPc (ci := 6) (q0 := 0) rfl rfl)) rfl rfl hl.1 rfl (lv_room (Nat.le_of_ble_eq_true rfl)) dX6_crosses_101 ⟨Nat.zero_le _, Nat.zero_le _⟩) hS (fun q _ h => hFc q h) hFc (fun r3 u t H1 locs ht hvm wza3 hB hz1 hk1 hS => ?_)
          obtain ⟨za3, rfl⟩ : ∃ z, z = u := ⟨_, rfl⟩
          obtain ⟨hP1, hK1, hD1⟩ := hB
          rw [ht] at hP1
          obtain ⟨hP, hD⟩ := va_join (wr := [(zf, .inl (cI, 4096, .inl fr)), (zt, .inl (cI, 4096, .inl to1))]) (w1 := [(ma, .inr (6, mo_ th zk zp za zb zx zy sn zf zt zw zm zh x0 y0 dx dy zz cu zo zu)), (zz, .inl (cJ, 192, .inr (.inl za3))), (zx, .inl (cI, 4096, .inl xs)), (zy, .inl (cI, 4096, .inl ys))]) hP hD [4, 5, 0, 1] [2, 3] rfl rfl (by decide) (by decide) hk1 hFc hP1 hD1
          clear hPc hDc hFc hP1 hD1 hK1 hk1 hz1 hvm ht
          generalize H1 = H at hP hS ⊢
          have hP : va_P g vwCl [(zf, .inl (cI, 4096, .inl fr)), (zt, .inl (cI, 4096, .inl to1)), (ma, .inr (6, mo_ th zk zp za zb zx zy sn zf zt zw zm zh x0 y0 dx dy zz cu zo zu)), (zz, .inl (cJ, 192, .inr (.inl za3))), (zx, .inl (cI, 4096, .inl xs)), (zy, .inl (cI, 4096, .inl ys))] H := hP
          have hD : va_D A [(zf, .inl (cI, 4096, .inl fr)), (zt, .inl (cI, 4096, .inl to1)), (ma, .inr (6, mo_ th zk zp za zb zx zy sn zf zt zw zm zh x0 y0 dx dy zz cu zo zu)), (zz, .inl (cJ, 192, .inr (.inl za3))), (zx, .inl (cI, 4096, .inl xs)), (zy, .inl (cI, 4096, .inl ys))] := hD
          obtain ⟨eza3, qza3⟩ := wza3
          subst eza3
          refine jnV (α := Int32) (ls := ls) (pc2 := 112) (fun v => v = bo_ (0 < sde_ xs ys x0 y0 dx dy nm dn p1 q1)) (fun v => [.int v]) (fun J => ?_) (fun v hv => ?_)
          · refine lv_if_le (tgt := 111) hx hb dX6_crosses_104 (by decide) (fun cj => ?_) (fun cj => ?_)
            · refine lv_iconst (v := 0) hx hb dX6_crosses_111 (by decide) ?_
              exact J _ (bo_f (Int32.not_lt.mpr cj))
            · refine lv_iconst (v := 1) hx hb dX6_crosses_107 (by decide) ?_
              refine lv_goto (tgt := 112) hx hb dX6_crosses_108 (by decide) ?_
              exact J _ (bo_t (Int32.not_le.mp cj))
          · subst hv
            have hP9 := hP.sub (ws' := [(ma, .inr (6, mo_ th zk zp za zb zx zy sn zf zt zw zm zh x0 y0 dx dy zz cu zo zu)), (zz, .inl (cJ, 192, .inr (.inl za3))), (zx, .inl (cI, 4096, .inl xs)), (zy, .inl (cI, 4096, .inl ys)), (zf, .inl (cI, 4096, .inl fr)), (zt, .inl (cI, 4096, .inl to1))]) [2, 3, 4, 5, 0, 1] rfl
            have hD9 := hD.sub (ws' := [(ma, .inr (6, mo_ th zk zp za zb zx zy sn zf zt zw zm zh x0 y0 dx dy zz cu zo zu)), (zz, .inl (cJ, 192, .inr (.inl za3))), (zx, .inl (cI, 4096, .inl xs)), (zy, .inl (cI, 4096, .inl ys)), (zf, .inl (cI, 4096, .inl fr)), (zt, .inl (cI, 4096, .inl to1))]) [2, 3, 4, 5, 0, 1] (by decide) rfl
            exact W.zret (v := (bo_ (0 < sde_ xs ys x0 y0 dx dy nm dn p1 q1))) (ty := .boolean) hx hb hr bo_n (fun t ht hW => ⟨⟨bo_ (0 < sde_ xs ys x0 y0 dx dy nm dn p1 q1), za3, rfl, ⟨by unfold crx_; rw [if_neg c1, if_pos c2], qza3⟩, by rw [ht]; exact hP9, va_K.moved hW.alike hK, hD9⟩, hS.F ht⟩) hS.2.2 dX6_crosses_112
        · refine lv_aload_n hx hb dX6_crosses_61 rfl (lv_at hl 2 rfl) ?_
          refine lv_aload_n hx hb dX6_crosses_62 rfl (lv_at hl 2 rfl) ?_
          refine va_get (D := g) (ci := 6) (v := .ref zt) (C := RX6) (T := TX6) (N := 21) hx hb hts hiX6 hown hK hP 4 rfl rfl 9 (by decide) (hts (.fieldLink RX6 31 "ShapeRelatorModel" "to" "[I") (List.mem_of_getElem? (i := 3) rfl)) (fun _ h9 => h9) rfl dX6_crosses_63 ?_
          refine lv_iload_n hx hb dX6_crosses_66 rfl (lv_at hl 3 rfl) ?_
          refine va_iald (D := g) hx hb hK hP 3 0 rfl rfl (vp_in_nI (h3) (by omega)) dX6_crosses_67 ?_
          refine tpi_ (y := (nI q1)) (by rw [nI_clamp (by omega), h5]) ?_
          refine lv_aload_n hx hb dX6_crosses_68 rfl (lv_at hl 2 rfl) ?_
          refine va_get (D := g) (ci := 6) (v := .ref zf) (C := RX6) (T := TX6) (N := 21) hx hb hts hiX6 hown hK hP 4 rfl rfl 8 (by decide) (hts (.fieldLink RX6 28 "ShapeRelatorModel" "from" "[I") (List.mem_of_getElem? (i := 2) rfl)) (fun _ h9 => h9) rfl dX6_crosses_69 ?_
          refine lv_iload_n hx hb dX6_crosses_72 rfl (lv_at hl 3 rfl) ?_
          refine va_iald (D := g) hx hb hK hP 2 0 rfl rfl (vp_in_nI (h3) (by omega)) dX6_crosses_73 ?_
          refine tpi_ (y := (nI p1)) (by rw [nI_clamp (by omega), h4]) ?_
          have hPc := hP.sub (ws' := [(ma, .inr (6, mo_ th zk zp za zb zx zy sn zf zt zw zm zh x0 y0 dx dy zz cu zo zu)), (zz, .inl (cJ, 192, .inr (.inl za2))), (zx, .inl (cI, 4096, .inl xs)), (zy, .inl (cI, 4096, .inl ys))]) [4, 5, 0, 1] rfl
          have hDc := hD.sub (ws' := [(ma, .inr (6, mo_ th zk zp za zb zx zy sn zf zt zw zm zh x0 y0 dx dy zz cu zo zu)), (zz, .inl (cJ, 192, .inr (.inl za2))), (zx, .inl (cI, 4096, .inl xs)), (zy, .inl (cI, 4096, .inl ys))]) [4, 5, 0, 1] (by decide) rfl
          have hFc := va_free (wc := [(ma, .inr (6, mo_ th zk zp za zb zx zy sn zf zt zw zm zh x0 y0 dx dy zz cu zo zu)), (zz, .inl (cJ, 192, .inr (.inl za2))), (zx, .inl (cI, 4096, .inl xs)), (zy, .inl (cI, 4096, .inl ys))]) hD hS hA [4, 5, 0, 1] rfl
          refine va_calli (va_runV (As := [.int (nI q1), .int (nI p1)]) (rest := []) ⟨hx, hb, hml, hown, hts⟩ (kX6_side l g cI cJ cZ H.size ma th sn x0 y0 dx dy cu zk zp za zb zx zy zf zt zw zm zh zz zo zu za2 xs ys nm dn q1 p1 qza2 h2 h1) (cwV 2 hts gX6_crosses_X6_side rfl rfl rfl (by decide +kernel) ⟨Nat.le_of_ble_eq_true rfl, Nat.le_of_ble_eq_true rfl⟩) (pv_ hK hPc hDc (va_recv hK hPc (ci := 6) (q0 := 0) rfl rfl)) rfl rfl hl.1 rfl (lv_room (Nat.le_of_ble_eq_true rfl)) dX6_crosses_74 ⟨Nat.zero_le _, Nat.zero_le _⟩) hS (fun q _ h => hFc q h) hFc (fun r3 u t H1 locs ht hvm wza3 hB hz1 hk1 hS => ?_)
          obtain ⟨za3, rfl⟩ : ∃ z, z = u := ⟨_, rfl⟩
          obtain ⟨hP1, hK1, hD1⟩ := hB
          rw [ht] at hP1
          obtain ⟨hP, hD⟩ := va_join (wr := [(zf, .inl (cI, 4096, .inl fr)), (zt, .inl (cI, 4096, .inl to1))]) (w1 := [(ma, .inr (6, mo_ th zk zp za zb zx zy sn zf zt zw zm zh x0 y0 dx dy zz cu zo zu)), (zz, .inl (cJ, 192, .inr (.inl za3))), (zx, .inl (cI, 4096, .inl xs)), (zy, .inl (cI, 4096, .inl ys))]) hP hD [4, 5, 0, 1] [2, 3] rfl rfl (by decide) (by decide) hk1 hFc hP1 hD1
          clear hPc hDc hFc hP1 hD1 hK1 hk1 hz1 hvm ht
          generalize H1 = H at hP hS ⊢
          have hP : va_P g vwCl [(zf, .inl (cI, 4096, .inl fr)), (zt, .inl (cI, 4096, .inl to1)), (ma, .inr (6, mo_ th zk zp za zb zx zy sn zf zt zw zm zh x0 y0 dx dy zz cu zo zu)), (zz, .inl (cJ, 192, .inr (.inl za3))), (zx, .inl (cI, 4096, .inl xs)), (zy, .inl (cI, 4096, .inl ys))] H := hP
          have hD : va_D A [(zf, .inl (cI, 4096, .inl fr)), (zt, .inl (cI, 4096, .inl to1)), (ma, .inr (6, mo_ th zk zp za zb zx zy sn zf zt zw zm zh x0 y0 dx dy zz cu zo zu)), (zz, .inl (cJ, 192, .inr (.inl za3))), (zx, .inl (cI, 4096, .inl xs)), (zy, .inl (cI, 4096, .inl ys))] := hD
          obtain ⟨eza3, qza3⟩ := wza3
          subst eza3
          refine jnV (α := Int32) (ls := ls) (pc2 := 112) (fun v => v = bo_ (0 < sde_ xs ys x0 y0 dx dy nm dn q1 p1)) (fun v => [.int v]) (fun J => ?_) (fun v hv => ?_)
          · refine lv_if_le (tgt := 84) hx hb dX6_crosses_77 (by decide) (fun cj => ?_) (fun cj => ?_)
            · refine lv_iconst (v := 0) hx hb dX6_crosses_84 (by decide) ?_
              refine lv_goto (tgt := 112) hx hb dX6_crosses_85 (by decide) ?_
              exact J _ (bo_f (Int32.not_lt.mpr cj))
            · refine lv_iconst (v := 1) hx hb dX6_crosses_80 (by decide) ?_
              refine lv_goto (tgt := 112) hx hb dX6_crosses_81 (by decide) ?_
              exact J _ (bo_t (Int32.not_le.mp cj))
          · subst hv
            have hP9 := hP.sub (ws' := [(ma, .inr (6, mo_ th zk zp za zb zx zy sn zf zt zw zm zh x0 y0 dx dy zz cu zo zu)), (zz, .inl (cJ, 192, .inr (.inl za3))), (zx, .inl (cI, 4096, .inl xs)), (zy, .inl (cI, 4096, .inl ys)), (zf, .inl (cI, 4096, .inl fr)), (zt, .inl (cI, 4096, .inl to1))]) [2, 3, 4, 5, 0, 1] rfl
            have hD9 := hD.sub (ws' := [(ma, .inr (6, mo_ th zk zp za zb zx zy sn zf zt zw zm zh x0 y0 dx dy zz cu zo zu)), (zz, .inl (cJ, 192, .inr (.inl za3))), (zx, .inl (cI, 4096, .inl xs)), (zy, .inl (cI, 4096, .inl ys)), (zf, .inl (cI, 4096, .inl fr)), (zt, .inl (cI, 4096, .inl to1))]) [2, 3, 4, 5, 0, 1] (by decide) rfl
            exact W.zret (v := (bo_ (0 < sde_ xs ys x0 y0 dx dy nm dn q1 p1))) (ty := .boolean) hx hb hr bo_n (fun t ht hW => ⟨⟨bo_ (0 < sde_ xs ys x0 y0 dx dy nm dn q1 p1), za3, rfl, ⟨by unfold crx_; rw [if_neg c1, if_neg c2], qza3⟩, by rw [ht]; exact hP9, va_K.moved hW.alike hK, hD9⟩, hS.F ht⟩) hS.2.2 dX6_crosses_112
      · refine lv_iconst (v := 0) hx hb dX6_crosses_55 (by decide) ?_
        have hP9 := hP.sub (ws' := [(ma, .inr (6, mo_ th zk zp za zb zx zy sn zf zt zw zm zh x0 y0 dx dy zz cu zo zu)), (zz, .inl (cJ, 192, .inr (.inl za2))), (zx, .inl (cI, 4096, .inl xs)), (zy, .inl (cI, 4096, .inl ys)), (zf, .inl (cI, 4096, .inl fr)), (zt, .inl (cI, 4096, .inl to1))]) [4, 5, 0, 1, 2, 3] rfl
        have hD9 := hD.sub (ws' := [(ma, .inr (6, mo_ th zk zp za zb zx zy sn zf zt zw zm zh x0 y0 dx dy zz cu zo zu)), (zz, .inl (cJ, 192, .inr (.inl za2))), (zx, .inl (cI, 4096, .inl xs)), (zy, .inl (cI, 4096, .inl ys)), (zf, .inl (cI, 4096, .inl fr)), (zt, .inl (cI, 4096, .inl to1))]) [4, 5, 0, 1, 2, 3] (by decide) rfl
        exact W.zret (v := 0) (ty := .boolean) hx hb hr (by decide +kernel) (fun t ht hW => ⟨⟨0, za2, rfl, ⟨by unfold crx_; rw [if_pos c1], qza2⟩, by rw [ht]; exact hP9, va_K.moved hW.alike hK, hD9⟩, hS.F ht⟩) hS.2.2 dX6_crosses_56
end
