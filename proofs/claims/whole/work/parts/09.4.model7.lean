section
theorem ikX6_cutAt_X6 : ∀ w ∈ wsX60, w ∈ wsX6_cutAt := by decide +kernel
set_option maxHeartbeats 1000000 in
set_option maxRecDepth 100000 in
theorem kX6_cutAt (l : Launch) (g : va_G) (cI cJ cZ : ClassId) (sz : Nat) (ma : Nat) (th : Int32) (sn : Int32) (x0 : Int64) (y0 : Int64) (dx : Int64) (dy : Int64) (cu : Int32) (zk : Nat) (zp : Nat) (za : Nat) (zb : Nat) (zx : Nat) (zy : Nat) (zf : Nat) (zt : Nat) (zw : Nat) (zm : Nat) (zh : Nat) (zz : Nat) (zo : Nat) (zu : Nat) (z : Nat → Int64) (xs : Nat → Int32) (ys : Nat → Int32) (p1 : Nat) (h1 : p1 < 4096) : Met l yX6_cutAt wsX6_cutAt ({ frames := 3, cells := 0, slots := 0, locals := 75 }) (pc_ g cI cJ cZ [.ref ma, .int (nI p1)] [(ma, .inr (6, mo_ th zk zp za zb zx zy sn zf zt zw zm zh x0 y0 dx dy zz cu zo zu)), (zz, .inl (cJ, 192, .inr (.inl z))), (zx, .inl (cI, 4096, .inl xs)), (zy, .inl (cI, 4096, .inl ys))] sz) (va_Qv (fun (z2 : (Nat → Int64)) => gq_ z2 0 1) (fun (z2 : (Nat → Int64)) t => wd_ g cI cJ cZ (va_A [(ma, .inr (6, mo_ th zk zp za zb zx zy sn zf zt zw zm zh x0 y0 dx dy zz cu zo zu)), (zz, .inl (cJ, 192, .inr (.inl z))), (zx, .inl (cI, 4096, .inl xs)), (zy, .inl (cI, 4096, .inl ys))] sz) [(ma, .inr (6, mo_ th zk zp za zb zx zy sn zf zt zw zm zh ((xs p1).toInt64) ((ys p1).toInt64) 0 0 zz cu zo zu)), (zz, .inl (cJ, 192, .inr (.inl z2))), (zx, .inl (cI, 4096, .inl xs)), (zy, .inl (cI, 4096, .inl ys))] t) (va_A [(ma, .inr (6, mo_ th zk zp za zb zx zy sn zf zt zw zm zh x0 y0 dx dy zz cu zo zu)), (zz, .inl (cJ, 192, .inr (.inl z))), (zx, .inl (cI, 4096, .inl xs)), (zy, .inl (cI, 4096, .inl ys))] sz)) (0) (0) (va_A [(ma, .inr (6, mo_ th zk zp za zb zx zy sn zf zt zw zm zh x0 y0 dx dy zz cu zo zu)), (zz, .inl (cJ, 192, .inr (.inl z))), (zx, .inl (cI, 4096, .inl xs)), (zy, .inl (cI, 4096, .inl ys))] sz) := by
  refine Met.ofW (cc := cX6_cutAt) (maxL := 2) (ret := none) (by decide) rfl ?_
  intro p e s m args below meth c s₁ B hml hv
  obtain ⟨rfl, hsz, hP, hK, hD0⟩ := hv
  have hx := B.exec
  have hb := B.bytes
  have hr := B.returns
  have hts := atoms_spec (ws := wsX6_cutAt) B.pre
  have hown : s.vm.findClass RX6 = some m.cls := findClass_of_methodNamed B.named
  have hlocks := B.notSynchronized
  subst hsz
  have hD := hD0.self (sz := s.heap.size)
  generalize hAe : va_A [(ma, .inr (6, mo_ th zk zp za zb zx zy sn zf zt zw zm zh x0 y0 dx dy zz cu zo zu)), (zz, .inl (cJ, 192, .inr (.inl z))), (zx, .inl (cI, 4096, .inl xs)), (zy, .inl (cI, 4096, .inl ys))] s.heap.size = A at hD ⊢
  have hA : ∀ q : Nat, s.heap.size ≤ q → A q := fun q h => by rw [← hAe]; exact Or.inr h
  have hS : va_S A s.heap s.heap [] := va_S.rf
  have hP : va_P g vwCl [(ma, .inr (6, mo_ th zk zp za zb zx zy sn zf zt zw zm zh x0 y0 dx dy zz cu zo zu)), (zz, .inl (cJ, 192, .inr (.inl z))), (zx, .inl (cI, 4096, .inl xs)), (zy, .inl (cI, 4096, .inl ys))] s.heap := hP
  have hl := lv_entry ([.ref ma, .int (nI p1)]) (n := 2) (Nat.le_of_ble_eq_true rfl)
  rw [lg_entry_eq]
  generalize (lg_sl ([.ref ma, .int (nI p1)]) ++ List.replicate (2 - (lg_sl ([.ref ma, .int (nI p1)])).length) Slot.unset).toArray = ls at hl ⊢
  have hl : lv_has ls 2 [(0, .ref ma), (1, .int (nI p1))] := hl
  have hH0 : s.heap = s.heap := rfl
  have hiX6 := ikX6_cutAt_X6
  refine lv_aload_n hx hb dX6_cutAt_0 rfl (lv_at hl 0 rfl) ?_
  refine lv_aload_n hx hb dX6_cutAt_1 rfl (lv_at hl 0 rfl) ?_
  refine va_get (D := g) (ci := 6) (v := .ref zx) (C := RX6) (T := TX6) (N := 21) hx hb hts hiX6 hown hK hP 0 rfl rfl 5 (by decide) (hts (.fieldLink RX6 22 "ShapeRelatorModel" "xs" "[I") (List.mem_of_getElem? (i := 1) rfl)) (fun _ h9 => h9) rfl dX6_cutAt_2 ?_
  refine lv_iload_n hx hb dX6_cutAt_5 rfl (lv_at hl 1 rfl) ?_
  refine va_iald (D := g) hx hb hK hP 2 0 rfl rfl (vp_in_nI (h1) (by omega)) dX6_cutAt_6 ?_
  refine tpi_ (y := (xs p1)) (by rw [nI_clamp (by omega)]) ?_
  refine lv_i2l hx hb dX6_cutAt_7 rfl ?_
  refine lv_aload_n hx hb dX6_cutAt_8 rfl (lv_at hl 0 rfl) ?_
  refine va_get (D := g) (ci := 6) (v := .ref zy) (C := RX6) (T := TX6) (N := 21) hx hb hts hiX6 hown hK hP 0 rfl rfl 6 (by decide) (hts (.fieldLink RX6 25 "ShapeRelatorModel" "ys" "[I") (List.mem_of_getElem? (i := 2) rfl)) (fun _ h9 => h9) rfl dX6_cutAt_9 ?_
  refine lv_iload_n hx hb dX6_cutAt_12 rfl (lv_at hl 1 rfl) ?_
  refine va_iald (D := g) hx hb hK hP 3 0 rfl rfl (vp_in_nI (h1) (by omega)) dX6_cutAt_13 ?_
  refine tpi_ (y := (ys p1)) (by rw [nI_clamp (by omega)]) ?_
  refine lv_i2l hx hb dX6_cutAt_14 rfl ?_
  refine lv_lconst (v := 0) hx hb dX6_cutAt_15 (by decide) ?_
  refine lv_lconst (v := 0) hx hb dX6_cutAt_16 (by decide) ?_
  have hPc := hP.sub (ws' := [(ma, .inr (6, mo_ th zk zp za zb zx zy sn zf zt zw zm zh x0 y0 dx dy zz cu zo zu))]) [0] rfl
  have hDc := hD.sub (ws' := [(ma, .inr (6, mo_ th zk zp za zb zx zy sn zf zt zw zm zh x0 y0 dx dy zz cu zo zu))]) [0] (by decide) rfl
  have hFc := va_free (wc := [(ma, .inr (6, mo_ th zk zp za zb zx zy sn zf zt zw zm zh x0 y0 dx dy zz cu zo zu))]) hD hS hA [0] rfl
  refine va_callv (va_runV (As := [.long ((xs p1).toInt64), .long ((ys p1).toInt64), .long 0, .long 0]) (rest := []) ⟨hx, hb, hml, hown, hts⟩ (kX6_stand l g cI cJ cZ s.heap.size ma th sn x0 y0 dx dy cu zk zp za zb zx zy zf zt zw zm zh zz zo zu ((xs p1).toInt64) ((ys p1).toInt64) 0 0) (cwV 4 hts gX6_cutAt_X6_stand rfl rfl rfl (by decide +kernel) ⟨Nat.le_of_ble_eq_true rfl, Nat.le_of_ble_eq_true rfl⟩) (pv_ hK hPc hDc (va_recv hK hPc (ci := 6) (q0 := 0) rfl rfl)) rfl rfl hl.1 rfl (lv_room (Nat.le_of_ble_eq_true rfl)) dX6_cutAt_17 ⟨Nat.zero_le _, Nat.zero_le _⟩) hS (fun q _ h => hFc q h) hFc (fun u t H1 locs ht hvm hw hB hz1 hk1 hS => ?_)
  obtain ⟨hP1, hK1, hD1⟩ := hB
  rw [ht] at hP1
  obtain ⟨hP, hD⟩ := va_join (wr := [(zz, .inl (cJ, 192, .inr (.inl z))), (zx, .inl (cI, 4096, .inl xs)), (zy, .inl (cI, 4096, .inl ys))]) (w1 := [(ma, .inr (6, mo_ th zk zp za zb zx zy sn zf zt zw zm zh ((xs p1).toInt64) ((ys p1).toInt64) 0 0 zz cu zo zu))]) hP hD [0] [1, 2, 3] rfl rfl (by decide) (by decide) hk1 hFc hP1 hD1
  clear hPc hDc hFc hP1 hD1 hK1 hk1 hz1 hvm ht
  generalize H1 = H at hP hS ⊢
  have hP : va_P g vwCl [(zz, .inl (cJ, 192, .inr (.inl z))), (zx, .inl (cI, 4096, .inl xs)), (zy, .inl (cI, 4096, .inl ys)), (ma, .inr (6, mo_ th zk zp za zb zx zy sn zf zt zw zm zh ((xs p1).toInt64) ((ys p1).toInt64) 0 0 zz cu zo zu))] H := hP
  have hD : va_D A [(zz, .inl (cJ, 192, .inr (.inl z))), (zx, .inl (cI, 4096, .inl xs)), (zy, .inl (cI, 4096, .inl ys)), (ma, .inr (6, mo_ th zk zp za zb zx zy sn zf zt zw zm zh ((xs p1).toInt64) ((ys p1).toInt64) 0 0 zz cu zo zu))] := hD
  refine lv_aload_n hx hb dX6_cutAt_20 rfl (lv_at hl 0 rfl) ?_
  refine lv_lconst (v := 0) hx hb dX6_cutAt_21 (by decide) ?_
  refine lv_lconst (v := 1) hx hb dX6_cutAt_22 (by decide) ?_
  have hPc := hP.sub (ws' := [(ma, .inr (6, mo_ th zk zp za zb zx zy sn zf zt zw zm zh ((xs p1).toInt64) ((ys p1).toInt64) 0 0 zz cu zo zu)), (zz, .inl (cJ, 192, .inr (.inl z)))]) [3, 0] rfl
  have hDc := hD.sub (ws' := [(ma, .inr (6, mo_ th zk zp za zb zx zy sn zf zt zw zm zh ((xs p1).toInt64) ((ys p1).toInt64) 0 0 zz cu zo zu)), (zz, .inl (cJ, 192, .inr (.inl z)))]) [3, 0] (by decide) rfl
  have hFc := va_free (wc := [(ma, .inr (6, mo_ th zk zp za zb zx zy sn zf zt zw zm zh ((xs p1).toInt64) ((ys p1).toInt64) 0 0 zz cu zo zu)), (zz, .inl (cJ, 192, .inr (.inl z)))]) hD hS hA [3, 0] rfl
  refine va_callv (va_runV (As := [.long 0, .long 1]) (rest := []) ⟨hx, hb, hml, hown, hts⟩ (kX6_at l g cI cJ cZ H.size ma th sn ((xs p1).toInt64) ((ys p1).toInt64) 0 0 cu zk zp za zb zx zy zf zt zw zm zh zz zo zu z 0 1) (cwV 2 hts gX6_cutAt_X6_at rfl rfl rfl (by decide +kernel) ⟨Nat.le_of_ble_eq_true rfl, Nat.le_of_ble_eq_true rfl⟩) (pv_ hK hPc hDc (va_recv hK hPc (ci := 6) (q0 := 0) rfl rfl)) rfl rfl hl.1 rfl (lv_room (Nat.le_of_ble_eq_true rfl)) dX6_cutAt_23 ⟨Nat.zero_le _, Nat.zero_le _⟩) hS (fun q _ h => hFc q h) hFc (fun u t H1 locs ht hvm hw1 hB hz1 hk1 hS => ?_)
  obtain ⟨z1, rfl⟩ : ∃ z, z = u := ⟨_, rfl⟩
  obtain ⟨hP1, hK1, hD1⟩ := hB
  rw [ht] at hP1
  obtain ⟨hP, hD⟩ := va_join (wr := [(zx, .inl (cI, 4096, .inl xs)), (zy, .inl (cI, 4096, .inl ys))]) (w1 := [(ma, .inr (6, mo_ th zk zp za zb zx zy sn zf zt zw zm zh ((xs p1).toInt64) ((ys p1).toInt64) 0 0 zz cu zo zu)), (zz, .inl (cJ, 192, .inr (.inl z1)))]) hP hD [3, 0] [1, 2] rfl rfl (by decide) (by decide) hk1 hFc hP1 hD1
  clear hPc hDc hFc hP1 hD1 hK1 hk1 hz1 hvm ht
  generalize H1 = H at hP hS ⊢
  have hP : va_P g vwCl [(zx, .inl (cI, 4096, .inl xs)), (zy, .inl (cI, 4096, .inl ys)), (ma, .inr (6, mo_ th zk zp za zb zx zy sn zf zt zw zm zh ((xs p1).toInt64) ((ys p1).toInt64) 0 0 zz cu zo zu)), (zz, .inl (cJ, 192, .inr (.inl z1)))] H := hP
  have hD : va_D A [(zx, .inl (cI, 4096, .inl xs)), (zy, .inl (cI, 4096, .inl ys)), (ma, .inr (6, mo_ th zk zp za zb zx zy sn zf zt zw zm zh ((xs p1).toInt64) ((ys p1).toInt64) 0 0 zz cu zo zu)), (zz, .inl (cJ, 192, .inr (.inl z1)))] := hD
  have hP9 := hP.sub (ws' := [(ma, .inr (6, mo_ th zk zp za zb zx zy sn zf zt zw zm zh ((xs p1).toInt64) ((ys p1).toInt64) 0 0 zz cu zo zu)), (zz, .inl (cJ, 192, .inr (.inl z1))), (zx, .inl (cI, 4096, .inl xs)), (zy, .inl (cI, 4096, .inl ys))]) [2, 3, 0, 1] rfl
  have hD9 := hD.sub (ws' := [(ma, .inr (6, mo_ th zk zp za zb zx zy sn zf zt zw zm zh ((xs p1).toInt64) ((ys p1).toInt64) 0 0 zz cu zo zu)), (zz, .inl (cJ, 192, .inr (.inl z1))), (zx, .inl (cI, 4096, .inl xs)), (zy, .inl (cI, 4096, .inl ys))]) [2, 3, 0, 1] (by decide) rfl
  exact W.vret hx hb hr (fun t ht hW => ⟨⟨z1, rfl, hw1, by rw [ht]; exact hP9, va_K.moved hW.alike hK, hD9⟩, hS.F ht⟩) hS.2.2 dX6_cutAt_26

theorem ikX6_cutByPoint_X6 : ∀ w ∈ wsX60, w ∈ wsX6_cutByPoint := by decide +kernel
set_option maxHeartbeats 1000000 in
set_option maxRecDepth 100000 in
theorem kX6_cutByPoint (l : Launch) (g : va_G) (cI cJ cZ : ClassId) (sz : Nat) (ma : Nat) (th : Int32) (sn : Int32) (x0 : Int64) (y0 : Int64) (dx : Int64) (dy : Int64) (zk : Nat) (zp : Nat) (za : Nat) (zb : Nat) (zx : Nat) (zy : Nat) (zf : Nat) (zt : Nat) (zw : Nat) (zm : Nat) (zh : Nat) (zz : Nat) (zo : Nat) (zu : Nat) (ov : Nat → Int64) (un : Nat → Int64) (xs : Nat → Int32) (ys : Nat → Int32) (fr : Nat → Int32) (to1 : Nat → Int32) (F : List (Nat × Nat)) (fa : Nat) (fb : Nat) (k : Nat) (p1 : Nat) (q1 : Nat) (v1 : Nat) (hf : fl2_ ov un F) (hk1 : fok_ F) (hln : F.length < 12400) (h1 : p1 < 4096) (h2 : q1 < 4096) (h3 : k < 4096) (h4 : fr k = nI p1) (h5 : to1 k = nI q1) (hv : v1 < 4096) (e1 : pcO_ xs ys p1 q1 v1 = lN fa) (e2 : pcU_ xs ys p1 q1 = lN fb) (b1 : fa < 2 ^ 63) (b2 : 0 < fb ∧ fb < 2 ^ 63) : Met l yX6_cutByPoint wsX6_cutByPoint ({ frames := 2, cells := 0, slots := 0, locals := 71 }) (pc_ g cI cJ cZ [.ref ma, .int (nI k), .int (nI v1)] [(ma, .inr (6, mo_ th zk zp za zb zx zy sn zf zt zw zm zh x0 y0 dx dy zz (nI F.length) zo zu)), (zo, .inl (cJ, 12400, .inr (.inl ov))), (zu, .inl (cJ, 12400, .inr (.inl un))), (zx, .inl (cI, 4096, .inl xs)), (zy, .inl (cI, 4096, .inl ys)), (zf, .inl (cI, 4096, .inl fr)), (zt, .inl (cI, 4096, .inl to1))] sz) (va_Qv (fun (u : (Nat → Int64) × (Nat → Int64)) => match u with | (ov2, un2) => fl2_ ov2 un2 (ins_ F (fa, fb))) (fun (u : (Nat → Int64) × (Nat → Int64)) t => match u with | (ov2, un2) => wd_ g cI cJ cZ (va_A [(ma, .inr (6, mo_ th zk zp za zb zx zy sn zf zt zw zm zh x0 y0 dx dy zz (nI F.length) zo zu)), (zo, .inl (cJ, 12400, .inr (.inl ov))), (zu, .inl (cJ, 12400, .inr (.inl un))), (zx, .inl (cI, 4096, .inl xs)), (zy, .inl (cI, 4096, .inl ys)), (zf, .inl (cI, 4096, .inl fr)), (zt, .inl (cI, 4096, .inl to1))] sz) [(ma, .inr (6, mo_ th zk zp za zb zx zy sn zf zt zw zm zh x0 y0 dx dy zz (nI (ins_ F (fa, fb)).length) zo zu)), (zo, .inl (cJ, 12400, .inr (.inl ov2))), (zu, .inl (cJ, 12400, .inr (.inl un2))), (zx, .inl (cI, 4096, .inl xs)), (zy, .inl (cI, 4096, .inl ys)), (zf, .inl (cI, 4096, .inl fr)), (zt, .inl (cI, 4096, .inl to1))] t) (va_A [(ma, .inr (6, mo_ th zk zp za zb zx zy sn zf zt zw zm zh x0 y0 dx dy zz (nI F.length) zo zu)), (zo, .inl (cJ, 12400, .inr (.inl ov))), (zu, .inl (cJ, 12400, .inr (.inl un))), (zx, .inl (cI, 4096, .inl xs)), (zy, .inl (cI, 4096, .inl ys)), (zf, .inl (cI, 4096, .inl fr)), (zt, .inl (cI, 4096, .inl to1))] sz)) (0) (0) (va_A [(ma, .inr (6, mo_ th zk zp za zb zx zy sn zf zt zw zm zh x0 y0 dx dy zz (nI F.length) zo zu)), (zo, .inl (cJ, 12400, .inr (.inl ov))), (zu, .inl (cJ, 12400, .inr (.inl un))), (zx, .inl (cI, 4096, .inl xs)), (zy, .inl (cI, 4096, .inl ys)), (zf, .inl (cI, 4096, .inl fr)), (zt, .inl (cI, 4096, .inl to1))] sz) := by
  refine Met.ofW (cc := cX6_cutByPoint) (maxL := 11) (ret := none) (by decide) rfl ?_
  intro p e s m args below meth c s₁ B hml hv
  obtain ⟨rfl, hsz, hP, hK, hD0⟩ := hv
  have hx := B.exec
  have hb := B.bytes
  have hr := B.returns
  have hts := atoms_spec (ws := wsX6_cutByPoint) B.pre
  have hown : s.vm.findClass RX6 = some m.cls := findClass_of_methodNamed B.named
  have hlocks := B.notSynchronized
  subst hsz
  have hD := hD0.self (sz := s.heap.size)
  generalize hAe : va_A [(ma, .inr (6, mo_ th zk zp za zb zx zy sn zf zt zw zm zh x0 y0 dx dy zz (nI F.length) zo zu)), (zo, .inl (cJ, 12400, .inr (.inl ov))), (zu, .inl (cJ, 12400, .inr (.inl un))), (zx, .inl (cI, 4096, .inl xs)), (zy, .inl (cI, 4096, .inl ys)), (zf, .inl (cI, 4096, .inl fr)), (zt, .inl (cI, 4096, .inl to1))] s.heap.size = A at hD ⊢
  have hA : ∀ q : Nat, s.heap.size ≤ q → A q := fun q h => by rw [← hAe]; exact Or.inr h
  have hS : va_S A s.heap s.heap [] := va_S.rf
  have hP : va_P g vwCl [(ma, .inr (6, mo_ th zk zp za zb zx zy sn zf zt zw zm zh x0 y0 dx dy zz (nI F.length) zo zu)), (zo, .inl (cJ, 12400, .inr (.inl ov))), (zu, .inl (cJ, 12400, .inr (.inl un))), (zx, .inl (cI, 4096, .inl xs)), (zy, .inl (cI, 4096, .inl ys)), (zf, .inl (cI, 4096, .inl fr)), (zt, .inl (cI, 4096, .inl to1))] s.heap := hP
  have hl := lv_entry ([.ref ma, .int (nI k), .int (nI v1)]) (n := 11) (Nat.le_of_ble_eq_true rfl)
  rw [lg_entry_eq]
  generalize (lg_sl ([.ref ma, .int (nI k), .int (nI v1)]) ++ List.replicate (11 - (lg_sl ([.ref ma, .int (nI k), .int (nI v1)])).length) Slot.unset).toArray = ls at hl ⊢
  have hl : lv_has ls 11 [(0, .ref ma), (1, .int (nI k)), (2, .int (nI v1))] := hl
  have hH0 : s.heap = s.heap := rfl
  have hiX6 := ikX6_cutByPoint_X6
  refine lv_aload_n hx hb dX6_cutByPoint_0 rfl (lv_at hl 0 rfl) ?_
  refine va_get (D := g) (ci := 6) (v := .ref zx) (C := RX6) (T := TX6) (N := 21) hx hb hts hiX6 hown hK hP 0 rfl rfl 5 (by decide) (hts (.fieldLink RX6 22 "ShapeRelatorModel" "xs" "[I") (List.mem_of_getElem? (i := 1) rfl)) (fun _ h9 => h9) rfl dX6_cutByPoint_1 ?_
  refine lv_aload_n hx hb dX6_cutByPoint_4 rfl (lv_at hl 0 rfl) ?_
  refine va_get (D := g) (ci := 6) (v := .ref zt) (C := RX6) (T := TX6) (N := 21) hx hb hts hiX6 hown hK hP 0 rfl rfl 9 (by decide) (hts (.fieldLink RX6 31 "ShapeRelatorModel" "to" "[I") (List.mem_of_getElem? (i := 2) rfl)) (fun _ h9 => h9) rfl dX6_cutByPoint_5 ?_
  refine lv_iload_n hx hb dX6_cutByPoint_8 rfl (lv_at hl 1 rfl) ?_
  refine va_iald (D := g) hx hb hK hP 6 0 rfl rfl (vp_in_nI (h3) (by omega)) dX6_cutByPoint_9 ?_
  refine tpi_ (y := (nI q1)) (by rw [nI_clamp (by omega), h5]) ?_
  refine va_iald (D := g) hx hb hK hP 3 0 rfl rfl (vp_in_nI (h2) (by omega)) dX6_cutByPoint_10 ?_
  refine tpi_ (y := (xs q1)) (by rw [nI_clamp (by omega)]) ?_
  refine lv_i2l hx hb dX6_cutByPoint_11 rfl ?_
  refine lv_aload_n hx hb dX6_cutByPoint_12 rfl (lv_at hl 0 rfl) ?_
  refine va_get (D := g) (ci := 6) (v := .ref zx) (C := RX6) (T := TX6) (N := 21) hx hb hts hiX6 hown hK hP 0 rfl rfl 5 (by decide) (hts (.fieldLink RX6 22 "ShapeRelatorModel" "xs" "[I") (List.mem_of_getElem? (i := 1) rfl)) (fun _ h9 => h9) rfl dX6_cutByPoint_13 ?_
  refine lv_aload_n hx hb dX6_cutByPoint_16 rfl (lv_at hl 0 rfl) ?_
  refine va_get (D := g) (ci := 6) (v := .ref zf) (C := RX6) (T := TX6) (N := 21) hx hb hts hiX6 hown hK hP 0 rfl rfl 8 (by decide) (hts (.fieldLink RX6 28 "ShapeRelatorModel" "from" "[I") (List.mem_of_getElem? (i := 3) rfl)) (fun _ h9 => h9) rfl dX6_cutByPoint_17 ?_
  refine lv_iload_n hx hb dX6_cutByPoint_20 rfl (lv_at hl 1 rfl) ?_
  refine va_iald (D := g) hx hb hK hP 5 0 rfl rfl (vp_in_nI (h3) (by omega)) dX6_cutByPoint_21 ?_
  refine tpi_ (y := (nI p1)) (by rw [nI_clamp (by omega), h4]) ?_
  refine va_iald (D := g) hx hb hK hP 3 0 rfl rfl (vp_in_nI (h1) (by omega)) dX6_cutByPoint_22 ?_
  refine tpi_ (y := (xs p1)) (by rw [nI_clamp (by omega)]) ?_
  refine lv_i2l hx hb dX6_cutByPoint_23 rfl ?_
  refine lv_lsub hx hb dX6_cutByPoint_24 ?_
  refine lv_lstore_n (lv' := [(3, .long (((xs q1).toInt64) - ((xs p1).toInt64))), (0, .ref ma), (1, .int (nI k)), (2, .int (nI v1))]) hx hb dX6_cutByPoint_25 rfl hl (by decide) rfl (fun ls hl => ?_)
  refine lv_aload_n hx hb dX6_cutByPoint_26 rfl (lv_at hl 1 rfl) ?_
  refine va_get (D := g) (ci := 6) (v := .ref zy) (C := RX6) (T := TX6) (N := 21) hx hb hts hiX6 hown hK hP 0 rfl rfl 6 (by decide) (hts (.fieldLink RX6 25 "ShapeRelatorModel" "ys" "[I") (List.mem_of_getElem? (i := 4) rfl)) (fun _ h9 => h9) rfl dX6_cutByPoint_27 ?_
  refine lv_aload_n hx hb dX6_cutByPoint_30 rfl (lv_at hl 1 rfl) ?_
  refine va_get (D := g) (ci := 6) (v := .ref zt) (C := RX6) (T := TX6) (N := 21) hx hb hts hiX6 hown hK hP 0 rfl rfl 9 (by decide) (hts (.fieldLink RX6 31 "ShapeRelatorModel" "to" "[I") (List.mem_of_getElem? (i := 2) rfl)) (fun _ h9 => h9) rfl dX6_cutByPoint_31 ?_
  refine lv_iload_n hx hb dX6_cutByPoint_34 rfl (lv_at hl 2 rfl) ?_
  refine va_iald (D := g) hx hb hK hP 6 0 rfl rfl (vp_in_nI (h3) (by omega)) dX6_cutByPoint_35 ?_
  refine tpi_ (y := (nI q1)) (by rw [nI_clamp (by omega), h5]) ?_
  refine va_iald (D := g) hx hb hK hP 4 0 rfl rfl (vp_in_nI (h2) (by omega)) dX6_cutByPoint_36 ?_
  refine tpi_ (y := (ys q1)) (by rw [nI_clamp (by omega)]) ?_
  refine lv_i2l hx hb dX6_cutByPoint_37 rfl ?_
  refine lv_aload_n hx hb dX6_cutByPoint_38 rfl (lv_at hl 1 rfl) ?_
  refine va_get (D := g) (ci := 6) (v := .ref zy) (C := RX6) (T := TX6) (N := 21) hx hb hts hiX6 hown hK hP 0 rfl rfl 6 (by decide) (hts (.fieldLink RX6 25 "ShapeRelatorModel" "ys" "[I") (List.mem_of_getElem? (i := 4) rfl)) (fun _ h9 => h9) rfl dX6_cutByPoint_39 ?_
  refine lv_aload_n hx hb dX6_cutByPoint_42 rfl (lv_at hl 1 rfl) ?_
  refine va_get (D := g) (ci := 6) (v := .ref zf) (C := RX6) (T := TX6) (N := 21) hx hb hts hiX6 hown hK hP 0 rfl rfl 8 (by decide) (hts (.fieldLink RX6 28 "ShapeRelatorModel" "from" "[I") (List.mem_of_getElem? (i := 3) rfl)) (fun _ h9 => h9) rfl dX6_cutByPoint_43 ?_
  refine lv_iload_n hx hb dX6_cutByPoint_46 rfl (lv_at hl 2 rfl) ?_
  refine va_iald (D := g) hx hb hK hP 5 0 rfl rfl (vp_in_nI (h3) (by omega)) dX6_cutByPoint_47 ?_
  refine tpi_ (y := (nI p1)) (by rw [nI_clamp (by omega), h4]) ?_
  refine va_iald (D := g) hx hb hK hP 4 0 rfl rfl (vp_in_nI (h1) (by omega)) dX6_cutByPoint_48 ?_
  refine tpi_ (y := (ys p1)) (by rw [nI_clamp (by omega)]) ?_
  refine lv_i2l hx hb dX6_cutByPoint_49 rfl ?_
  refine lv_lsub hx hb dX6_cutByPoint_50 ?_
  refine lv_lstore (lv' := [(5, .long (((ys q1).toInt64) - ((ys p1).toInt64))), (3, .long (((xs q1).toInt64) - ((xs p1).toInt64))), (0, .ref ma), (1, .int (nI k)), (2, .int (nI v1))]) hx hb dX6_cutByPoint_51 hl (by decide) rfl (fun ls hl => ?_)
  refine lv_lload_n hx hb dX6_cutByPoint_53 rfl (lv_at hl 1 rfl) ?_
  refine lv_lconst (v := 0) hx hb dX6_cutByPoint_54 (by decide) ?_
  refine W.lcmp hx hb dX6_cutByPoint_55 ?_
  refine lv_if_eq (tgt := 82) hx hb dX6_cutByPoint_56 (by decide) (fun c1 => ?_) (fun c1 => ?_)
  · refine lv_aload_n hx hb dX6_cutByPoint_82 rfl (lv_at hl 2 rfl) ?_
    refine va_get (D := g) (ci := 6) (v := .ref zy) (C := RX6) (T := TX6) (N := 21) hx hb hts hiX6 hown hK hP 0 rfl rfl 6 (by decide) (hts (.fieldLink RX6 25 "ShapeRelatorModel" "ys" "[I") (List.mem_of_getElem? (i := 4) rfl)) (fun _ h9 => h9) rfl dX6_cutByPoint_83 ?_
    refine lv_iload_n hx hb dX6_cutByPoint_86 rfl (lv_at hl 4 rfl) ?_
    refine va_iald (D := g) hx hb hK hP 4 0 rfl rfl (vp_in_nI (hv) (by omega)) dX6_cutByPoint_87 ?_
    refine tpi_ (y := (ys v1)) (by rw [nI_clamp (by omega)]) ?_
    refine lv_i2l hx hb dX6_cutByPoint_88 rfl ?_
    refine lv_aload_n hx hb dX6_cutByPoint_89 rfl (lv_at hl 2 rfl) ?_
    refine va_get (D := g) (ci := 6) (v := .ref zy) (C := RX6) (T := TX6) (N := 21) hx hb hts hiX6 hown hK hP 0 rfl rfl 6 (by decide) (hts (.fieldLink RX6 25 "ShapeRelatorModel" "ys" "[I") (List.mem_of_getElem? (i := 4) rfl)) (fun _ h9 => h9) rfl dX6_cutByPoint_90 ?_
    refine lv_aload_n hx hb dX6_cutByPoint_93 rfl (lv_at hl 2 rfl) ?_
    refine va_get (D := g) (ci := 6) (v := .ref zf) (C := RX6) (T := TX6) (N := 21) hx hb hts hiX6 hown hK hP 0 rfl rfl 8 (by decide) (hts (.fieldLink RX6 28 "ShapeRelatorModel" "from" "[I") (List.mem_of_getElem? (i := 3) rfl)) (fun _ h9 => h9) rfl dX6_cutByPoint_94 ?_
    refine lv_iload_n hx hb dX6_cutByPoint_97 rfl (lv_at hl 3 rfl) ?_
    refine va_iald (D := g) hx hb hK hP 5 0 rfl rfl (vp_in_nI (h3) (by omega)) dX6_cutByPoint_98 ?_
    refine tpi_ (y := (nI p1)) (by rw [nI_clamp (by omega), h4]) ?_
    refine va_iald (D := g) hx hb hK hP 4 0 rfl rfl (vp_in_nI (h1) (by omega)) dX6_cutByPoint_99 ?_
    refine tpi_ (y := (ys p1)) (by rw [nI_clamp (by omega)]) ?_
    refine lv_i2l hx hb dX6_cutByPoint_100 rfl ?_
    refine lv_lsub hx hb dX6_cutByPoint_101 ?_
    refine tpl_ (y := (pov_ xs ys p1 q1 v1)) (by unfold pov_; rw [if_pos ((lg_cmp_eq _ _).mp c1)]) ?_
    refine lv_lstore (lv' := [(7, .long (pov_ xs ys p1 q1 v1)), (5, .long (((ys q1).toInt64) - ((ys p1).toInt64))), (3, .long (((xs q1).toInt64) - ((xs p1).toInt64))), (0, .ref ma), (1, .int (nI k)), (2, .int (nI v1))]) hx hb dX6_cutByPoint_102 hl (by decide) rfl (fun ls hl => ?_)
    refine lv_lload_n hx hb dX6_cutByPoint_104 rfl (lv_at hl 2 rfl) ?_
    refine lv_lconst (v := 0) hx hb dX6_cutByPoint_105 (by decide) ?_
    refine W.lcmp hx hb dX6_cutByPoint_106 ?_
    refine lv_if_eq (tgt := 114) hx hb dX6_cutByPoint_107 (by decide) (fun c2 => ?_) (fun c2 => ?_)
    · refine lv_lload hx hb dX6_cutByPoint_114 (lv_at hl 1 rfl) ?_
      refine tpl_ (y := (pun_ xs ys p1 q1)) (by unfold pun_; rw [if_pos ((lg_cmp_eq _ _).mp c1)]) ?_
      refine lv_lstore (lv' := [(9, .long (pun_ xs ys p1 q1)), (7, .long (pov_ xs ys p1 q1 v1)), (5, .long (((ys q1).toInt64) - ((ys p1).toInt64))), (3, .long (((xs q1).toInt64) - ((xs p1).toInt64))), (0, .ref ma), (1, .int (nI k)), (2, .int (nI v1))]) hx hb dX6_cutByPoint_116 hl (by decide) rfl (fun ls hl => ?_)
      refine lv_aload_n hx hb dX6_cutByPoint_118 rfl (lv_at hl 4 rfl) ?_
      refine lv_lload hx hb dX6_cutByPoint_119 (lv_at hl 0 rfl) ?_
      refine lv_lconst (v := 0) hx hb dX6_cutByPoint_121 (by decide) ?_
      refine W.lcmp hx hb dX6_cutByPoint_122 ?_
      refine lv_if_ge (tgt := 132) hx hb dX6_cutByPoint_123 (by decide) (fun c3 => ?_) (fun c3 => ?_)
      · refine lv_lload hx hb dX6_cutByPoint_132 (lv_at hl 1 rfl) ?_
        refine lv_lload hx hb dX6_cutByPoint_134 (lv_at hl 0 rfl) ?_
        refine lv_lconst (v := 0) hx hb dX6_cutByPoint_136 (by decide) ?_
        refine W.lcmp hx hb dX6_cutByPoint_137 ?_
        refine lv_if_ge (tgt := 147) hx hb dX6_cutByPoint_138 (by decide) (fun c4 => ?_) (fun c4 => ?_)
        · refine lv_lload hx hb dX6_cutByPoint_147 (lv_at hl 0 rfl) ?_
          refine st2_ (y1 := lN fb) (y2 := lN fa) (by rw [← e2]; unfold pcU_; rw [if_neg (Int64.not_lt.mpr ((lg_cmp_ge _ _).mp c3))]) (by rw [← e1]; unfold pcO_; rw [if_neg (Int64.not_lt.mpr ((lg_cmp_ge _ _).mp c3))]) ?_
          have hPc := hP.sub (ws' := [(ma, .inr (6, mo_ th zk zp za zb zx zy sn zf zt zw zm zh x0 y0 dx dy zz (nI F.length) zo zu)), (zo, .inl (cJ, 12400, .inr (.inl ov))), (zu, .inl (cJ, 12400, .inr (.inl un)))]) [0, 1, 2] rfl
          have hDc := hD.sub (ws' := [(ma, .inr (6, mo_ th zk zp za zb zx zy sn zf zt zw zm zh x0 y0 dx dy zz (nI F.length) zo zu)), (zo, .inl (cJ, 12400, .inr (.inl ov))), (zu, .inl (cJ, 12400, .inr (.inl un)))]) [0, 1, 2] (by decide) rfl
          have hFc := va_free (wc := [(ma, .inr (6, mo_ th zk zp za zb zx zy sn zf zt zw zm zh x0 y0 dx dy zz (nI F.length) zo zu)), (zo, .inl (cJ, 12400, .inr (.inl ov))), (zu, .inl (cJ, 12400, .inr (.inl un)))]) hD hS hA [0, 1, 2] rfl
          refine va_callv (va_runV (As := [.long (lN fa), .long (lN fb)]) (rest := []) ⟨hx, hb, hml, hown, hts⟩ (kX6_cut l g cI cJ cZ s.heap.size ma th sn x0 y0 dx dy zk zp za zb zx zy zf zt zw zm zh zz zo zu ov un F fa fb hf hk1 hln b1 b2) (cwV 2 hts gX6_cutByPoint_X6_cut rfl rfl rfl (by decide +kernel) ⟨Nat.le_of_ble_eq_true rfl, Nat.le_of_ble_eq_true rfl⟩) (pv_ hK hPc hDc (va_recv hK hPc (ci := 6) (q0 := 0) rfl rfl)) rfl rfl hl.1 rfl (lv_room (Nat.le_of_ble_eq_true rfl)) dX6_cutByPoint_149 ⟨Nat.zero_le _, Nat.zero_le _⟩) hS (fun q _ h => hFc q h) hFc (fun u t H1 locs ht hvm hw3 hB hz1 hk1 hS => ?_)
          obtain ⟨ov3, un3⟩ := u
          obtain ⟨hP1, hK1, hD1⟩ := hB
          rw [ht] at hP1
          dsimp only at hw3
          obtain ⟨hP, hD⟩ := va_join (wr := [(zx, .inl (cI, 4096, .inl xs)), (zy, .inl (cI, 4096, .inl ys)), (zf, .inl (cI, 4096, .inl fr)), (zt, .inl (cI, 4096, .inl to1))]) (w1 := [(ma, .inr (6, mo_ th zk zp za zb zx zy sn zf zt zw zm zh x0 y0 dx dy zz (nI (ins_ F (fa, fb)).length) zo zu)), (zo, .inl (cJ, 12400, .inr (.inl ov3))), (zu, .inl (cJ, 12400, .inr (.inl un3)))]) hP hD [0, 1, 2] [3, 4, 5, 6] rfl rfl (by decide) (by decide) hk1 hFc hP1 hD1
          clear hPc hDc hFc hP1 hD1 hK1 hk1 hz1 hvm ht
          generalize H1 = H at hP hS ⊢
          have hP : va_P g vwCl [(zx, .inl (cI, 4096, .inl xs)), (zy, .inl (cI, 4096, .inl ys)), (zf, .inl (cI, 4096, .inl fr)), (zt, .inl (cI, 4096, .inl to1)), (ma, .inr (6, mo_ th zk zp za zb zx zy sn zf zt zw zm zh x0 y0 dx dy zz (nI (ins_ F (fa, fb)).length) zo zu)), (zo, .inl (cJ, 12400, .inr (.inl ov3))), (zu, .inl (cJ, 12400, .inr (.inl un3)))] H := hP
          have hD : va_D A [(zx, .inl (cI, 4096, .inl xs)), (zy, .inl (cI, 4096, .inl ys)), (zf, .inl (cI, 4096, .inl fr)), (zt, .inl (cI, 4096, .inl to1)), (ma, .inr (6, mo_ th zk zp za zb zx zy sn zf zt zw zm zh x0 y0 dx dy zz (nI (ins_ F (fa, fb)).length) zo zu)), (zo, .inl (cJ, 12400, .inr (.inl ov3))), (zu, .inl (cJ, 12400, .inr (.inl un3)))] := hD
          have hP9 := hP.sub (ws' := [(ma, .inr (6, mo_ th zk zp za zb zx zy sn zf zt zw zm zh x0 y0 dx dy zz (nI (ins_ F (fa, fb)).length) zo zu)), (zo, .inl (cJ, 12400, .inr (.inl ov3))), (zu, .inl (cJ, 12400, .inr (.inl un3))), (zx, .inl (cI, 4096, .inl xs)), (zy, .inl (cI, 4096, .inl ys)), (zf, .inl (cI, 4096, .inl fr)), (zt, .inl (cI, 4096, .inl to1))]) [4, 5, 6, 0, 1, 2, 3] rfl
          have hD9 := hD.sub (ws' := [(ma, .inr (6, mo_ th zk zp za zb zx zy sn zf zt zw zm zh x0 y0 dx dy zz (nI (ins_ F (fa, fb)).length) zo zu)), (zo, .inl (cJ, 12400, .inr (.inl ov3))), (zu, .inl (cJ, 12400, .inr (.inl un3))), (zx, .inl (cI, 4096, .inl xs)), (zy, .inl (cI, 4096, .inl ys)), (zf, .inl (cI, 4096, .inl fr)), (zt, .inl (cI, 4096, .inl to1))]) [4, 5, 6, 0, 1, 2, 3] (by decide) rfl
          exact W.vret hx hb hr (fun t ht hW => ⟨⟨(ov3, un3), rfl, hw3, by rw [ht]; exact hP9, va_K.moved hW.alike hK, hD9⟩, hS.F ht⟩) hS.2.2 dX6_cutByPoint_152
        · exact absurd c3 c4
      · refine lv_lload hx hb dX6_cutByPoint_126 (lv_at hl 1 rfl) ?_
        refine lv_lneg hx hb dX6_cutByPoint_128 ?_
        refine lv_goto (tgt := 134) hx hb dX6_cutByPoint_129 (by decide) ?_
        refine lv_lload hx hb dX6_cutByPoint_134 (lv_at hl 0 rfl) ?_
        refine lv_lconst (v := 0) hx hb dX6_cutByPoint_136 (by decide) ?_
        refine W.lcmp hx hb dX6_cutByPoint_137 ?_
        refine lv_if_ge (tgt := 147) hx hb dX6_cutByPoint_138 (by decide) (fun c4 => ?_) (fun c4 => ?_)
        · exact absurd c4 c3
        · refine lv_lload hx hb dX6_cutByPoint_141 (lv_at hl 0 rfl) ?_
          refine lv_lneg hx hb dX6_cutByPoint_143 ?_
          refine lv_goto (tgt := 149) hx hb dX6_cutByPoint_144 (by decide) ?_
          refine st2_ (y1 := lN fb) (y2 := lN fa) (by rw [← e2]; unfold pcU_; rw [if_pos (Int64.not_le.mp (fun h => c3 ((lg_cmp_ge _ _).mpr h)))]) (by rw [← e1]; unfold pcO_; rw [if_pos (Int64.not_le.mp (fun h => c3 ((lg_cmp_ge _ _).mpr h)))]) ?_
          have hPc := hP.sub (ws' := [(ma, .inr (6, mo_ th zk zp za zb zx zy sn zf zt zw zm zh x0 y0 dx dy zz (nI F.length) zo zu)), (zo, .inl (cJ, 12400, .inr (.inl ov))), (zu, .inl (cJ, 12400, .inr (.inl un)))]) [0, 1, 2] rfl
          have hDc := hD.sub (ws' := [(ma, .inr (6, mo_ th zk zp za zb zx zy sn zf zt zw zm zh x0 y0 dx dy zz (nI F.length) zo zu)), (zo, .inl (cJ, 12400, .inr (.inl ov))), (zu, .inl (cJ, 12400, .inr (.inl un)))]) [0, 1, 2] (by decide) rfl
          have hFc := va_free (wc := [(ma, .inr (6, mo_ th zk zp za zb zx zy sn zf zt zw zm zh x0 y0 dx dy zz (nI F.length) zo zu)), (zo, .inl (cJ, 12400, .inr (.inl ov))), (zu, .inl (cJ, 12400, .inr (.inl un)))]) hD hS hA [0, 1, 2] rfl
          refine va_callv (va_runV (As := [.long (lN fa), .long (lN fb)]) (rest := []) ⟨hx, hb, hml, hown, hts⟩ (kX6_cut l g cI cJ cZ s.heap.size ma th sn x0 y0 dx dy zk zp za zb zx zy zf zt zw zm zh zz zo zu ov un F fa fb hf hk1 hln b1 b2) (cwV 2 hts gX6_cutByPoint_X6_cut rfl rfl rfl (by decide +kernel) ⟨Nat.le_of_ble_eq_true rfl, Nat.le_of_ble_eq_true rfl⟩) (pv_ hK hPc hDc (va_recv hK hPc (ci := 6) (q0 := 0) rfl rfl)) rfl rfl hl.1 rfl (lv_room (Nat.le_of_ble_eq_true rfl)) dX6_cutByPoint_149 ⟨Nat.zero_le _, Nat.zero_le _⟩) hS (fun q _ h => hFc q h) hFc (fun u t H1 locs ht hvm hw3 hB hz1 hk1 hS => ?_)
          obtain ⟨ov3, un3⟩ := u
          obtain ⟨hP1, hK1, hD1⟩ := hB
          rw [ht] at hP1
          dsimp only at hw3
          obtain ⟨hP, hD⟩ := va_join (wr := [(zx, .inl (cI, 4096, .inl xs)), (zy, .inl (cI, 4096, .inl ys)), (zf, .inl (cI, 4096, .inl fr)), (zt, .inl (cI, 4096, .inl to1))]) (w1 := [(ma, .inr (6, mo_ th zk zp za zb zx zy sn zf zt zw zm zh x0 y0 dx dy zz (nI (ins_ F (fa, fb)).length) zo zu)), (zo, .inl (cJ, 12400, .inr (.inl ov3))), (zu, .inl (cJ, 12400, .inr (.inl un3)))]) hP hD [0, 1, 2] [3, 4, 5, 6] rfl rfl (by decide) (by decide) hk1 hFc hP1 hD1
          clear hPc hDc hFc hP1 hD1 hK1 hk1 hz1 hvm ht
          generalize H1 = H at hP hS ⊢
          have hP : va_P g vwCl [(zx, .inl (cI, 4096, .inl xs)), (zy, .inl (cI, 4096, .inl ys)), (zf, .inl (cI, 4096, .inl fr)), (zt, .inl (cI, 4096, .inl to1)), (ma, .inr (6, mo_ th zk zp za zb zx zy sn zf zt zw zm zh x0 y0 dx dy zz (nI (ins_ F (fa, fb)).length) zo zu)), (zo, .inl (cJ, 12400, .inr (.inl ov3))), (zu, .inl (cJ, 12400, .inr (.inl un3)))] H := hP
          have hD : va_D A [(zx, .inl (cI, 4096, .inl xs)), (zy, .inl (cI, 4096, .inl ys)), (zf, .inl (cI, 4096, .inl fr)), (zt, .inl (cI, 4096, .inl to1)), (ma, .inr (6, mo_ th zk zp za zb zx zy sn zf zt zw zm zh x0 y0 dx dy zz (nI (ins_ F (fa, fb)).length) zo zu)), (zo, .inl (cJ, 12400, .inr (.inl ov3))), (zu, .inl (cJ, 12400, .inr (.inl un3)))] := hD
          have hP9 := hP.sub (ws' := [(ma, .inr (6, mo_ th zk zp za zb zx zy sn zf zt zw zm zh x0 y0 dx dy zz (nI (ins_ F (fa, fb)).length) zo zu)), (zo, .inl (cJ, 12400, .inr (.inl ov3))), (zu, .inl (cJ, 12400, .inr (.inl un3))), (zx, .inl (cI, 4096, .inl xs)), (zy, .inl (cI, 4096, .inl ys)), (zf, .inl (cI, 4096, .inl fr)), (zt, .inl (cI, 4096, .inl to1))]) [4, 5, 6, 0, 1, 2, 3] rfl
          have hD9 := hD.sub (ws' := [(ma, .inr (6, mo_ th zk zp za zb zx zy sn zf zt zw zm zh x0 y0 dx dy zz (nI (ins_ F (fa, fb)).length) zo zu)), (zo, .inl (cJ, 12400, .inr (.inl ov3))), (zu, .inl (cJ, 12400, .inr (.inl un3))), (zx, .inl (cI, 4096, .inl xs)), (zy, .inl (cI, 4096, .inl ys)), (zf, .inl (cI, 4096, .inl fr)), (zt, .inl (cI, 4096, .inl to1))]) [4, 5, 6, 0, 1, 2, 3] (by decide) rfl
          exact W.vret hx hb hr (fun t ht hW => ⟨⟨(ov3, un3), rfl, hw3, by rw [ht]; exact hP9, va_K.moved hW.alike hK, hD9⟩, hS.F ht⟩) hS.2.2 dX6_cutByPoint_152
    · exact absurd c1 c2
  · refine lv_aload_n hx hb dX6_cutByPoint_59 rfl (lv_at hl 2 rfl) ?_
    refine va_get (D := g) (ci := 6) (v := .ref zx) (C := RX6) (T := TX6) (N := 21) hx hb hts hiX6 hown hK hP 0 rfl rfl 5 (by decide) (hts (.fieldLink RX6 22 "ShapeRelatorModel" "xs" "[I") (List.mem_of_getElem? (i := 1) rfl)) (fun _ h9 => h9) rfl dX6_cutByPoint_60 ?_
    refine lv_iload_n hx hb dX6_cutByPoint_63 rfl (lv_at hl 4 rfl) ?_
    refine va_iald (D := g) hx hb hK hP 3 0 rfl rfl (vp_in_nI (hv) (by omega)) dX6_cutByPoint_64 ?_
    refine tpi_ (y := (xs v1)) (by rw [nI_clamp (by omega)]) ?_
    refine lv_i2l hx hb dX6_cutByPoint_65 rfl ?_
    refine lv_aload_n hx hb dX6_cutByPoint_66 rfl (lv_at hl 2 rfl) ?_
    refine va_get (D := g) (ci := 6) (v := .ref zx) (C := RX6) (T := TX6) (N := 21) hx hb hts hiX6 hown hK hP 0 rfl rfl 5 (by decide) (hts (.fieldLink RX6 22 "ShapeRelatorModel" "xs" "[I") (List.mem_of_getElem? (i := 1) rfl)) (fun _ h9 => h9) rfl dX6_cutByPoint_67 ?_
    refine lv_aload_n hx hb dX6_cutByPoint_70 rfl (lv_at hl 2 rfl) ?_
    refine va_get (D := g) (ci := 6) (v := .ref zf) (C := RX6) (T := TX6) (N := 21) hx hb hts hiX6 hown hK hP 0 rfl rfl 8 (by decide) (hts (.fieldLink RX6 28 "ShapeRelatorModel" "from" "[I") (List.mem_of_getElem? (i := 3) rfl)) (fun _ h9 => h9) rfl dX6_cutByPoint_71 ?_
    refine lv_iload_n hx hb dX6_cutByPoint_74 rfl (lv_at hl 3 rfl) ?_
    refine va_iald (D := g) hx hb hK hP 5 0 rfl rfl (vp_in_nI (h3) (by omega)) dX6_cutByPoint_75 ?_
    refine tpi_ (y := (nI p1)) (by rw [nI_clamp (by omega), h4]) ?_
    refine va_iald (D := g) hx hb hK hP 3 0 rfl rfl (vp_in_nI (h1) (by omega)) dX6_cutByPoint_76 ?_
    refine tpi_ (y := (xs p1)) (by rw [nI_clamp (by omega)]) ?_
    refine lv_i2l hx hb dX6_cutByPoint_77 rfl ?_
    refine lv_lsub hx hb dX6_cutByPoint_78 ?_
    refine lv_goto (tgt := 102) hx hb dX6_cutByPoint_79 (by decide) ?_
    refine tpl_ (y := (pov_ xs ys p1 q1 v1)) (by unfold pov_; rw [if_neg (fun h => c1 ((lg_cmp_eq _ _).mpr h))]) ?_
    refine lv_lstore (lv' := [(7, .long (pov_ xs ys p1 q1 v1)), (5, .long (((ys q1).toInt64) - ((ys p1).toInt64))), (3, .long (((xs q1).toInt64) - ((xs p1).toInt64))), (0, .ref ma), (1, .int (nI k)), (2, .int (nI v1))]) hx hb dX6_cutByPoint_102 hl (by decide) rfl (fun ls hl => ?_)
    refine lv_lload_n hx hb dX6_cutByPoint_104 rfl (lv_at hl 2 rfl) ?_
    refine lv_lconst (v := 0) hx hb dX6_cutByPoint_105 (by decide) ?_
    refine W.lcmp hx hb dX6_cutByPoint_106 ?_
    refine lv_if_eq (tgt := 114) hx hb dX6_cutByPoint_107 (by decide) (fun c2 => ?_) (fun c2 => ?_)
    · exact absurd c2 c1
    · refine lv_lload_n hx hb dX6_cutByPoint_110 rfl (lv_at hl 2 rfl) ?_
      refine lv_goto (tgt := 116) hx hb dX6_cutByPoint_111 (by decide) ?_
      refine tpl_ (y := (pun_ xs ys p1 q1)) (by unfold pun_; rw [if_neg (fun h => c1 ((lg_cmp_eq _ _).mpr h))]) ?_
      refine lv_lstore (lv' := [(9, .long (pun_ xs ys p1 q1)), (7, .long (pov_ xs ys p1 q1 v1)), (5, .long (((ys q1).toInt64) - ((ys p1).toInt64))), (3, .long (((xs q1).toInt64) - ((xs p1).toInt64))), (0, .ref ma), (1, .int (nI k)), (2, .int (nI v1))]) hx hb dX6_cutByPoint_116 hl (by decide) rfl (fun ls hl => ?_)
      refine lv_aload_n hx hb dX6_cutByPoint_118 rfl (lv_at hl 4 rfl) ?_
      refine lv_lload hx hb dX6_cutByPoint_119 (lv_at hl 0 rfl) ?_
      refine lv_lconst (v := 0) hx hb dX6_cutByPoint_121 (by decide) ?_
      refine W.lcmp hx hb dX6_cutByPoint_122 ?_
      refine lv_if_ge (tgt := 132) hx hb dX6_cutByPoint_123 (by decide) (fun c3 => ?_) (fun c3 => ?_)
      · refine lv_lload hx hb dX6_cutByPoint_132 (lv_at hl 1 rfl) ?_
        refine lv_lload hx hb dX6_cutByPoint_134 (lv_at hl 0 rfl) ?_
        refine lv_lconst (v := 0) hx hb dX6_cutByPoint_136 (by decide) ?_
        refine W.lcmp hx hb dX6_cutByPoint_137 ?_
        refine lv_if_ge (tgt := 147) hx hb dX6_cutByPoint_138 (by decide) (fun c4 => ?_) (fun c4 => ?_)
        · refine lv_lload hx hb dX6_cutByPoint_147 (lv_at hl 0 rfl) ?_
          refine st2_ (y1 := lN fb) (y2 := lN fa) (by rw [← e2]; unfold pcU_; rw [if_neg (Int64.not_lt.mpr ((lg_cmp_ge _ _).mp c3))]) (by rw [← e1]; unfold pcO_; rw [if_neg (Int64.not_lt.mpr ((lg_cmp_ge _ _).mp c3))]) ?_
          have hPc := hP.sub (ws' := [(ma, .inr (6, mo_ th zk zp za zb zx zy sn zf zt zw zm zh x0 y0 dx dy zz (nI F.length) zo zu)), (zo, .inl (cJ, 12400, .inr (.inl ov))), (zu, .inl (cJ, 12400, .inr (.inl un)))]) [0, 1, 2] rfl
          have hDc := hD.sub (ws' := [(ma, .inr (6, mo_ th zk zp za zb zx zy sn zf zt zw zm zh x0 y0 dx dy zz (nI F.length) zo zu)), (zo, .inl (cJ, 12400, .inr (.inl ov))), (zu, .inl (cJ, 12400, .inr (.inl un)))]) [0, 1, 2] (by decide) rfl
          have hFc := va_free (wc := [(ma, .inr (6, mo_ th zk zp za zb zx zy sn zf zt zw zm zh x0 y0 dx dy zz (nI F.length) zo zu)), (zo, .inl (cJ, 12400, .inr (.inl ov))), (zu, .inl (cJ, 12400, .inr (.inl un)))]) hD hS hA [0, 1, 2] rfl
          refine va_callv (va_runV (As := [.long (lN fa), .long (lN fb)]) (rest := []) ⟨hx, hb, hml, hown, hts⟩ (kX6_cut l g cI cJ cZ s.heap.size ma th sn x0 y0 dx dy zk zp za zb zx zy zf zt zw zm zh zz zo zu ov un F fa fb hf hk1 hln b1 b2) (cwV 2 hts gX6_cutByPoint_X6_cut rfl rfl rfl (by decide +kernel) ⟨Nat.le_of_ble_eq_true rfl, Nat.le_of_ble_eq_true rfl⟩) (pv_ hK hPc hDc (va_recv hK hPc (ci := 6) (q0 := 0) rfl rfl)) rfl rfl hl.1 rfl (lv_room (Nat.le_of_ble_eq_true rfl)) dX6_cutByPoint_149 ⟨Nat.zero_le _, Nat.zero_le _⟩) hS (fun q _ h => hFc q h) hFc (fun u t H1 locs ht hvm hw3 hB hz1 hk1 hS => ?_)
          obtain ⟨ov3, un3⟩ := u
          obtain ⟨hP1, hK1, hD1⟩ := hB
          rw [ht] at hP1
          dsimp only at hw3
          obtain ⟨hP, hD⟩ := va_join (wr := [(zx, .inl (cI, 4096, .inl xs)), (zy, .inl (cI, 4096, .inl ys)), (zf, .inl (cI, 4096, .inl fr)), (zt, .inl (cI, 4096, .inl to1))]) (w1 := [(ma, .inr (6, mo_ th zk zp za zb zx zy sn zf zt zw zm zh x0 y0 dx dy zz (nI (ins_ F (fa, fb)).length) zo zu)), (zo, .inl (cJ, 12400, .inr (.inl ov3))), (zu, .inl (cJ, 12400, .inr (.inl un3)))]) hP hD [0, 1, 2] [3, 4, 5, 6] rfl rfl (by decide) (by decide) hk1 hFc hP1 hD1
          clear hPc hDc hFc hP1 hD1 hK1 hk1 hz1 hvm ht
          generalize H1 = H at hP hS ⊢
          have hP : va_P g vwCl [(zx, .inl (cI, 4096, .inl xs)), (zy, .inl (cI, 4096, .inl ys)), (zf, .inl (cI, 4096, .inl fr)), (zt, .inl (cI, 4096, .inl to1)), (ma, .inr (6, mo_ th zk zp za zb zx zy sn zf zt zw zm zh x0 y0 dx dy zz (nI (ins_ F (fa, fb)).length) zo zu)), (zo, .inl (cJ, 12400, .inr (.inl ov3))), (zu, .inl (cJ, 12400, .inr (.inl un3)))] H := hP
          have hD : va_D A [(zx, .inl (cI, 4096, .inl xs)), (zy, .inl (cI, 4096, .inl ys)), (zf, .inl (cI, 4096, .inl fr)), (zt, .inl (cI, 4096, .inl to1)), (ma, .inr (6, mo_ th zk zp za zb zx zy sn zf zt zw zm zh x0 y0 dx dy zz (nI (ins_ F (fa, fb)).length) zo zu)), (zo, .inl (cJ, 12400, .inr (.inl ov3))), (zu, .inl (cJ, 12400, .inr (.inl un3)))] := hD
          have hP9 := hP.sub (ws' := [(ma, .inr (6, mo_ th zk zp za zb zx zy sn zf zt zw zm zh x0 y0 dx dy zz (nI (ins_ F (fa, fb)).length) zo zu)), (zo, .inl (cJ, 12400, .inr (.inl ov3))), (zu, .inl (cJ, 12400, .inr (.inl un3))), (zx, .inl (cI, 4096, .inl xs)), (zy, .inl (cI, 4096, .inl ys)), (zf, .inl (cI, 4096, .inl fr)), (zt, .inl (cI, 4096, .inl to1))]) [4, 5, 6, 0, 1, 2, 3] rfl
          have hD9 := hD.sub (ws' := [(ma, .inr (6, mo_ th zk zp za zb zx zy sn zf zt zw zm zh x0 y0 dx dy zz (nI (ins_ F (fa, fb)).length) zo zu)), (zo, .inl (cJ, 12400, .inr (.inl ov3))), (zu, .inl (cJ, 12400, .inr (.inl un3))), (zx, .inl (cI, 4096, .inl xs)), (zy, .inl (cI, 4096, .inl ys)), (zf, .inl (cI, 4096, .inl fr)), (zt, .inl (cI, 4096, .inl to1))]) [4, 5, 6, 0, 1, 2, 3] (by decide) rfl
          exact W.vret hx hb hr (fun t ht hW => ⟨⟨(ov3, un3), rfl, hw3, by rw [ht]; exact hP9, va_K.moved hW.alike hK, hD9⟩, hS.F ht⟩) hS.2.2 dX6_cutByPoint_152
        · exact absurd c3 c4
      · refine lv_lload hx hb dX6_cutByPoint_126 (lv_at hl 1 rfl) ?_
        refine lv_lneg hx hb dX6_cutByPoint_128 ?_
        refine lv_goto (tgt := 134) hx hb dX6_cutByPoint_129 (by decide) ?_
        refine lv_lload hx hb dX6_cutByPoint_134 (lv_at hl 0 rfl) ?_
        refine lv_lconst (v := 0) hx hb dX6_cutByPoint_136 (by decide) ?_
        refine W.lcmp hx hb dX6_cutByPoint_137 ?_
        refine lv_if_ge (tgt := 147) hx hb dX6_cutByPoint_138 (by decide) (fun c4 => ?_) (fun c4 => ?_)
        · exact absurd c4 c3
        · refine lv_lload hx hb dX6_cutByPoint_141 (lv_at hl 0 rfl) ?_
          refine lv_lneg hx hb dX6_cutByPoint_143 ?_
          refine lv_goto (tgt := 149) hx hb dX6_cutByPoint_144 (by decide) ?_
          refine st2_ (y1 := lN fb) (y2 := lN fa) (by rw [← e2]; unfold pcU_; rw [if_pos (Int64.not_le.mp (fun h => c3 ((lg_cmp_ge _ _).mpr h)))]) (by rw [← e1]; unfold pcO_; rw [if_pos (Int64.not_le.mp (fun h => c3 ((lg_cmp_ge _ _).mpr h)))]) ?_
          have hPc := hP.sub (ws' := [(ma, .inr (6, mo_ th zk zp za zb zx zy sn zf zt zw zm zh x0 y0 dx dy zz (nI F.length) zo zu)), (zo, .inl (cJ, 12400, .inr (.inl ov))), (zu, .inl (cJ, 12400, .inr (.inl un)))]) [0, 1, 2] rfl
          have hDc := hD.sub (ws' := [(ma, .inr (6, mo_ th zk zp za zb zx zy sn zf zt zw zm zh x0 y0 dx dy zz (nI F.length) zo zu)), (zo, .inl (cJ, 12400, .inr (.inl ov))), (zu, .inl (cJ, 12400, .inr (.inl un)))]) [0, 1, 2] (by decide) rfl
          have hFc := va_free (wc := [(ma, .inr (6, mo_ th zk zp za zb zx zy sn zf zt zw zm zh x0 y0 dx dy zz (nI F.length) zo zu)), (zo, .inl (cJ, 12400, .inr (.inl ov))), (zu, .inl (cJ, 12400, .inr (.inl un)))]) hD hS hA [0, 1, 2] rfl
          refine va_callv (va_runV (As := [.long (lN fa), .long (lN fb)]) (rest := []) ⟨hx, hb, hml, hown, hts⟩ (kX6_cut l g cI cJ cZ s.heap.size ma th sn x0 y0 dx dy zk zp za zb zx zy zf zt zw zm zh zz zo zu ov un F fa fb hf hk1 hln b1 b2) (cwV 2 hts gX6_cutByPoint_X6_cut rfl rfl rfl (by decide +kernel) ⟨Nat.le_of_ble_eq_true rfl, Nat.le_of_ble_eq_true rfl⟩) (pv_ hK hPc hDc (va_recv hK hPc (ci := 6) (q0 := 0) rfl rfl)) rfl rfl hl.1 rfl (lv_room (Nat.le_of_ble_eq_true rfl)) dX6_cutByPoint_149 ⟨Nat.zero_le _, Nat.zero_le _⟩) hS (fun q _ h => hFc q h) hFc (fun u t H1 locs ht hvm hw3 hB hz1 hk1 hS => ?_)
          obtain ⟨ov3, un3⟩ := u
          obtain ⟨hP1, hK1, hD1⟩ := hB
          rw [ht] at hP1
          dsimp only at hw3
          obtain ⟨hP, hD⟩ := va_join (wr := [(zx, .inl (cI, 4096, .inl xs)), (zy, .inl (cI, 4096, .inl ys)), (zf, .inl (cI, 4096, .inl fr)), (zt, .inl (cI, 4096, .inl to1))]) (w1 := [(ma, .inr (6, mo_ th zk zp za zb zx zy sn zf zt zw zm zh x0 y0 dx dy zz (nI (ins_ F (fa, fb)).length) zo zu)), (zo, .inl (cJ, 12400, .inr (.inl ov3))), (zu, .inl (cJ, 12400, .inr (.inl un3)))]) hP hD [0, 1, 2] [3, 4, 5, 6] rfl rfl (by decide) (by decide) hk1 hFc hP1 hD1
          clear hPc hDc hFc hP1 hD1 hK1 hk1 hz1 hvm ht
          generalize H1 = H at hP hS ⊢
          have hP : va_P g vwCl [(zx, .inl (cI, 4096, .inl xs)), (zy, .inl (cI, 4096, .inl ys)), (zf, .inl (cI, 4096, .inl fr)), (zt, .inl (cI, 4096, .inl to1)), (ma, .inr (6, mo_ th zk zp za zb zx zy sn zf zt zw zm zh x0 y0 dx dy zz (nI (ins_ F (fa, fb)).length) zo zu)), (zo, .inl (cJ, 12400, .inr (.inl ov3))), (zu, .inl (cJ, 12400, .inr (.inl un3)))] H := hP
          have hD : va_D A [(zx, .inl (cI, 4096, .inl xs)), (zy, .inl (cI, 4096, .inl ys)), (zf, .inl (cI, 4096, .inl fr)), (zt, .inl (cI, 4096, .inl to1)), (ma, .inr (6, mo_ th zk zp za zb zx zy sn zf zt zw zm zh x0 y0 dx dy zz (nI (ins_ F (fa, fb)).length) zo zu)), (zo, .inl (cJ, 12400, .inr (.inl ov3))), (zu, .inl (cJ, 12400, .inr (.inl un3)))] := hD
          have hP9 := hP.sub (ws' := [(ma, .inr (6, mo_ th zk zp za zb zx zy sn zf zt zw zm zh x0 y0 dx dy zz (nI (ins_ F (fa, fb)).length) zo zu)), (zo, .inl (cJ, 12400, .inr (.inl ov3))), (zu, .inl (cJ, 12400, .inr (.inl un3))), (zx, .inl (cI, 4096, .inl xs)), (zy, .inl (cI, 4096, .inl ys)), (zf, .inl (cI, 4096, .inl fr)), (zt, .inl (cI, 4096, .inl to1))]) [4, 5, 6, 0, 1, 2, 3] rfl
          have hD9 := hD.sub (ws' := [(ma, .inr (6, mo_ th zk zp za zb zx zy sn zf zt zw zm zh x0 y0 dx dy zz (nI (ins_ F (fa, fb)).length) zo zu)), (zo, .inl (cJ, 12400, .inr (.inl ov3))), (zu, .inl (cJ, 12400, .inr (.inl un3))), (zx, .inl (cI, 4096, .inl xs)), (zy, .inl (cI, 4096, .inl ys)), (zf, .inl (cI, 4096, .inl fr)), (zt, .inl (cI, 4096, .inl to1))]) [4, 5, 6, 0, 1, 2, 3] (by decide) rfl
          exact W.vret hx hb hr (fun t ht hW => ⟨⟨(ov3, un3), rfl, hw3, by rw [ht]; exact hP9, va_K.moved hW.alike hK, hD9⟩, hS.F ht⟩) hS.2.2 dX6_cutByPoint_152

theorem ikX6_cutBySegment_X6 : ∀ w ∈ wsX60, w ∈ wsX6_cutBySegment := by decide +kernel
set_option maxHeartbeats 1000000 in
set_option maxRecDepth 100000 in
theorem kX6_cutBySegment (l : Launch) (g : va_G) (cI cJ cZ : ClassId) (sz : Nat) (ma : Nat) (th : Int32) (sn : Int32) (x0 : Int64) (y0 : Int64) (dx : Int64) (dy : Int64) (zk : Nat) (zp : Nat) (za : Nat) (zb : Nat) (zx : Nat) (zy : Nat) (zf : Nat) (zt : Nat) (zw : Nat) (zm : Nat) (zh : Nat) (zz : Nat) (zo : Nat) (zu : Nat) (ov : Nat → Int64) (un : Nat → Int64) (xs : Nat → Int32) (ys : Nat → Int32) (fr : Nat → Int32) (to1 : Nat → Int32) (F : List (Nat × Nat)) (k : Nat) (p1 : Nat) (q1 : Nat) (j : Nat) (p2 : Nat) (q2 : Nat) (hf : fl2_ ov un F) (hk1 : fok_ F) (hln : F.length < 12400) (h1 : p1 < 4096) (h2 : q1 < 4096) (h3 : k < 4096) (h4 : fr k = nI p1) (h5 : to1 k = nI q1) (g1 : p2 < 4096) (g2 : q2 < 4096) (g3 : j < 4096) (g4 : fr j = nI p2) (g5 : to1 j = nI q2) : Met l yX6_cutBySegment wsX6_cutBySegment ({ frames := 2, cells := 0, slots := 0, locals := 71 }) (pc_ g cI cJ cZ [.ref ma, .int (nI k), .int (nI j)] [(ma, .inr (6, mo_ th zk zp za zb zx zy sn zf zt zw zm zh x0 y0 dx dy zz (nI F.length) zo zu)), (zo, .inl (cJ, 12400, .inr (.inl ov))), (zu, .inl (cJ, 12400, .inr (.inl un))), (zx, .inl (cI, 4096, .inl xs)), (zy, .inl (cI, 4096, .inl ys)), (zf, .inl (cI, 4096, .inl fr)), (zt, .inl (cI, 4096, .inl to1))] sz) (va_Qv (fun (u : (Nat → Int64) × (Nat → Int64)) => match u with | (ov2, un2) => fl2_ ov2 un2 ((csq_ xs ys p1 q1 p2 q2).foldl ins_ F)) (fun (u : (Nat → Int64) × (Nat → Int64)) t => match u with | (ov2, un2) => wd_ g cI cJ cZ (va_A [(ma, .inr (6, mo_ th zk zp za zb zx zy sn zf zt zw zm zh x0 y0 dx dy zz (nI F.length) zo zu)), (zo, .inl (cJ, 12400, .inr (.inl ov))), (zu, .inl (cJ, 12400, .inr (.inl un))), (zx, .inl (cI, 4096, .inl xs)), (zy, .inl (cI, 4096, .inl ys)), (zf, .inl (cI, 4096, .inl fr)), (zt, .inl (cI, 4096, .inl to1))] sz) [(ma, .inr (6, mo_ th zk zp za zb zx zy sn zf zt zw zm zh x0 y0 dx dy zz (nI ((csq_ xs ys p1 q1 p2 q2).foldl ins_ F).length) zo zu)), (zo, .inl (cJ, 12400, .inr (.inl ov2))), (zu, .inl (cJ, 12400, .inr (.inl un2))), (zx, .inl (cI, 4096, .inl xs)), (zy, .inl (cI, 4096, .inl ys)), (zf, .inl (cI, 4096, .inl fr)), (zt, .inl (cI, 4096, .inl to1))] t) (va_A [(ma, .inr (6, mo_ th zk zp za zb zx zy sn zf zt zw zm zh x0 y0 dx dy zz (nI F.length) zo zu)), (zo, .inl (cJ, 12400, .inr (.inl ov))), (zu, .inl (cJ, 12400, .inr (.inl un))), (zx, .inl (cI, 4096, .inl xs)), (zy, .inl (cI, 4096, .inl ys)), (zf, .inl (cI, 4096, .inl fr)), (zt, .inl (cI, 4096, .inl to1))] sz)) (0) (0) (va_A [(ma, .inr (6, mo_ th zk zp za zb zx zy sn zf zt zw zm zh x0 y0 dx dy zz (nI F.length) zo zu)), (zo, .inl (cJ, 12400, .inr (.inl ov))), (zu, .inl (cJ, 12400, .inr (.inl un))), (zx, .inl (cI, 4096, .inl xs)), (zy, .inl (cI, 4096, .inl ys)), (zf, .inl (cI, 4096, .inl fr)), (zt, .inl (cI, 4096, .inl to1))] sz) := by
  refine Met.ofW (cc := cX6_cutBySegment) (maxL := 21) (ret := none) (by decide) rfl ?_
  intro p e s m args below meth c s₁ B hml hv
  obtain ⟨rfl, hsz, hP, hK, hD0⟩ := hv
  have hx := B.exec
  have hb := B.bytes
  have hr := B.returns
  have hts := atoms_spec (ws := wsX6_cutBySegment) B.pre
  have hown : s.vm.findClass RX6 = some m.cls := findClass_of_methodNamed B.named
  have hlocks := B.notSynchronized
  subst hsz
  have hD := hD0.self (sz := s.heap.size)
  generalize hAe : va_A [(ma, .inr (6, mo_ th zk zp za zb zx zy sn zf zt zw zm zh x0 y0 dx dy zz (nI F.length) zo zu)), (zo, .inl (cJ, 12400, .inr (.inl ov))), (zu, .inl (cJ, 12400, .inr (.inl un))), (zx, .inl (cI, 4096, .inl xs)), (zy, .inl (cI, 4096, .inl ys)), (zf, .inl (cI, 4096, .inl fr)), (zt, .inl (cI, 4096, .inl to1))] s.heap.size = A at hD ⊢
  have hA : ∀ q : Nat, s.heap.size ≤ q → A q := fun q h => by rw [← hAe]; exact Or.inr h
  have hS : va_S A s.heap s.heap [] := va_S.rf
  have hP : va_P g vwCl [(ma, .inr (6, mo_ th zk zp za zb zx zy sn zf zt zw zm zh x0 y0 dx dy zz (nI F.length) zo zu)), (zo, .inl (cJ, 12400, .inr (.inl ov))), (zu, .inl (cJ, 12400, .inr (.inl un))), (zx, .inl (cI, 4096, .inl xs)), (zy, .inl (cI, 4096, .inl ys)), (zf, .inl (cI, 4096, .inl fr)), (zt, .inl (cI, 4096, .inl to1))] s.heap := hP
  have hl := lv_entry ([.ref ma, .int (nI k), .int (nI j)]) (n := 21) (Nat.le_of_ble_eq_true rfl)
  rw [lg_entry_eq]
  generalize (lg_sl ([.ref ma, .int (nI k), .int (nI j)]) ++ List.replicate (21 - (lg_sl ([.ref ma, .int (nI k), .int (nI j)])).length) Slot.unset).toArray = ls at hl ⊢
  have hl : lv_has ls 21 [(0, .ref ma), (1, .int (nI k)), (2, .int (nI j))] := hl
  have hH0 : s.heap = s.heap := rfl
  have hiX6 := ikX6_cutBySegment_X6
  refine lv_aload_n hx hb dX6_cutBySegment_0 rfl (lv_at hl 0 rfl) ?_
  refine va_get (D := g) (ci := 6) (v := .ref zx) (C := RX6) (T := TX6) (N := 21) hx hb hts hiX6 hown hK hP 0 rfl rfl 5 (by decide) (hts (.fieldLink RX6 22 "ShapeRelatorModel" "xs" "[I") (List.mem_of_getElem? (i := 1) rfl)) (fun _ h9 => h9) rfl dX6_cutBySegment_1 ?_
  refine lv_aload_n hx hb dX6_cutBySegment_4 rfl (lv_at hl 0 rfl) ?_
  refine va_get (D := g) (ci := 6) (v := .ref zt) (C := RX6) (T := TX6) (N := 21) hx hb hts hiX6 hown hK hP 0 rfl rfl 9 (by decide) (hts (.fieldLink RX6 31 "ShapeRelatorModel" "to" "[I") (List.mem_of_getElem? (i := 2) rfl)) (fun _ h9 => h9) rfl dX6_cutBySegment_5 ?_
  refine lv_iload_n hx hb dX6_cutBySegment_8 rfl (lv_at hl 1 rfl) ?_
  refine va_iald (D := g) hx hb hK hP 6 0 rfl rfl (vp_in_nI (h3) (by omega)) dX6_cutBySegment_9 ?_
  refine tpi_ (y := (nI q1)) (by rw [nI_clamp (by omega), h5]) ?_
  refine va_iald (D := g) hx hb hK hP 3 0 rfl rfl (vp_in_nI (h2) (by omega)) dX6_cutBySegment_10 ?_
  refine tpi_ (y := (xs q1)) (by rw [nI_clamp (by omega)]) ?_
  refine lv_i2l hx hb dX6_cutBySegment_11 rfl ?_
  refine lv_aload_n hx hb dX6_cutBySegment_12 rfl (lv_at hl 0 rfl) ?_
  refine va_get (D := g) (ci := 6) (v := .ref zx) (C := RX6) (T := TX6) (N := 21) hx hb hts hiX6 hown hK hP 0 rfl rfl 5 (by decide) (hts (.fieldLink RX6 22 "ShapeRelatorModel" "xs" "[I") (List.mem_of_getElem? (i := 1) rfl)) (fun _ h9 => h9) rfl dX6_cutBySegment_13 ?_
  refine lv_aload_n hx hb dX6_cutBySegment_16 rfl (lv_at hl 0 rfl) ?_
  refine va_get (D := g) (ci := 6) (v := .ref zf) (C := RX6) (T := TX6) (N := 21) hx hb hts hiX6 hown hK hP 0 rfl rfl 8 (by decide) (hts (.fieldLink RX6 28 "ShapeRelatorModel" "from" "[I") (List.mem_of_getElem? (i := 3) rfl)) (fun _ h9 => h9) rfl dX6_cutBySegment_17 ?_
  refine lv_iload_n hx hb dX6_cutBySegment_20 rfl (lv_at hl 1 rfl) ?_
  refine va_iald (D := g) hx hb hK hP 5 0 rfl rfl (vp_in_nI (h3) (by omega)) dX6_cutBySegment_21 ?_
  refine tpi_ (y := (nI p1)) (by rw [nI_clamp (by omega), h4]) ?_
  refine va_iald (D := g) hx hb hK hP 3 0 rfl rfl (vp_in_nI (h1) (by omega)) dX6_cutBySegment_22 ?_
  refine tpi_ (y := (xs p1)) (by rw [nI_clamp (by omega)]) ?_
  refine lv_i2l hx hb dX6_cutBySegment_23 rfl ?_
  refine lv_lsub hx hb dX6_cutBySegment_24 ?_
  refine lv_lstore_n (lv' := [(3, .long (((xs q1).toInt64) - ((xs p1).toInt64))), (0, .ref ma), (1, .int (nI k)), (2, .int (nI j))]) hx hb dX6_cutBySegment_25 rfl hl (by decide) rfl (fun ls hl => ?_)
  refine lv_aload_n hx hb dX6_cutBySegment_26 rfl (lv_at hl 1 rfl) ?_
  refine va_get (D := g) (ci := 6) (v := .ref zy) (C := RX6) (T := TX6) (N := 21) hx hb hts hiX6 hown hK hP 0 rfl rfl 6 (by decide) (hts (.fieldLink RX6 25 "ShapeRelatorModel" "ys" "[I") (List.mem_of_getElem? (i := 4) rfl)) (fun _ h9 => h9) rfl dX6_cutBySegment_27 ?_
  refine lv_aload_n hx hb dX6_cutBySegment_30 rfl (lv_at hl 1 rfl) ?_
  refine va_get (D := g) (ci := 6) (v := .ref zt) (C := RX6) (T := TX6) (N := 21) hx hb hts hiX6 hown hK hP 0 rfl rfl 9 (by decide) (hts (.fieldLink RX6 31 "ShapeRelatorModel" "to" "[I") (List.mem_of_getElem? (i := 2) rfl)) (fun _ h9 => h9) rfl dX6_cutBySegment_31 ?_
  refine lv_iload_n hx hb dX6_cutBySegment_34 rfl (lv_at hl 2 rfl) ?_
  refine va_iald (D := g) hx hb hK hP 6 0 rfl rfl (vp_in_nI (h3) (by omega)) dX6_cutBySegment_35 ?_
  refine tpi_ (y := (nI q1)) (by rw [nI_clamp (by omega), h5]) ?_
  refine va_iald (D := g) hx hb hK hP 4 0 rfl rfl (vp_in_nI (h2) (by omega)) dX6_cutBySegment_36 ?_
  refine tpi_ (y := (ys q1)) (by rw [nI_clamp (by omega)]) ?_
  refine lv_i2l hx hb dX6_cutBySegment_37 rfl ?_
  refine lv_aload_n hx hb dX6_cutBySegment_38 rfl (lv_at hl 1 rfl) ?_
  refine va_get (D := g) (ci := 6) (v := .ref zy) (C := RX6) (T := TX6) (N := 21) hx hb hts hiX6 hown hK hP 0 rfl rfl 6 (by decide) (hts (.fieldLink RX6 25 "ShapeRelatorModel" "ys" "[I") (List.mem_of_getElem? (i := 4) rfl)) (fun _ h9 => h9) rfl dX6_cutBySegment_39 ?_
  refine lv_aload_n hx hb dX6_cutBySegment_42 rfl (lv_at hl 1 rfl) ?_
  refine va_get (D := g) (ci := 6) (v := .ref zf) (C := RX6) (T := TX6) (N := 21) hx hb hts hiX6 hown hK hP 0 rfl rfl 8 (by decide) (hts (.fieldLink RX6 28 "ShapeRelatorModel" "from" "[I") (List.mem_of_getElem? (i := 3) rfl)) (fun _ h9 => h9) rfl dX6_cutBySegment_43 ?_
  refine lv_iload_n hx hb dX6_cutBySegment_46 rfl (lv_at hl 2 rfl) ?_
  refine va_iald (D := g) hx hb hK hP 5 0 rfl rfl (vp_in_nI (h3) (by omega)) dX6_cutBySegment_47 ?_
  refine tpi_ (y := (nI p1)) (by rw [nI_clamp (by omega), h4]) ?_
  refine va_iald (D := g) hx hb hK hP 4 0 rfl rfl (vp_in_nI (h1) (by omega)) dX6_cutBySegment_48 ?_
  refine tpi_ (y := (ys p1)) (by rw [nI_clamp (by omega)]) ?_
  refine lv_i2l hx hb dX6_cutBySegment_49 rfl ?_
  refine lv_lsub hx hb dX6_cutBySegment_50 ?_
  refine lv_lstore (lv' := [(5, .long (((ys q1).toInt64) - ((ys p1).toInt64))), (3, .long (((xs q1).toInt64) - ((xs p1).toInt64))), (0, .ref ma), (1, .int (nI k)), (2, .int (nI j))]) hx hb dX6_cutBySegment_51 hl (by decide) rfl (fun ls hl => ?_)
  refine lv_aload_n hx hb dX6_cutBySegment_53 rfl (lv_at hl 2 rfl) ?_
  refine va_get (D := g) (ci := 6) (v := .ref zx) (C := RX6) (T := TX6) (N := 21) hx hb hts hiX6 hown hK hP 0 rfl rfl 5 (by decide) (hts (.fieldLink RX6 22 "ShapeRelatorModel" "xs" "[I") (List.mem_of_getElem? (i := 1) rfl)) (fun _ h9 => h9) rfl dX6_cutBySegment_54 ?_
  refine lv_aload_n hx hb dX6_cutBySegment_57 rfl (lv_at hl 2 rfl) ?_
  refine va_get (D := g) (ci := 6) (v := .ref zt) (C := RX6) (T := TX6) (N := 21) hx hb hts hiX6 hown hK hP 0 rfl rfl 9 (by decide) (hts (.fieldLink RX6 31 "ShapeRelatorModel" "to" "[I") (List.mem_of_getElem? (i := 2) rfl)) (fun _ h9 => h9) rfl dX6_cutBySegment_58 ?_
  refine lv_iload_n hx hb dX6_cutBySegment_61 rfl (lv_at hl 4 rfl) ?_
  refine va_iald (D := g) hx hb hK hP 6 0 rfl rfl (vp_in_nI (g3) (by omega)) dX6_cutBySegment_62 ?_
  refine tpi_ (y := (nI q2)) (by rw [nI_clamp (by omega), g5]) ?_
  refine va_iald (D := g) hx hb hK hP 3 0 rfl rfl (vp_in_nI (g2) (by omega)) dX6_cutBySegment_63 ?_
  refine tpi_ (y := (xs q2)) (by rw [nI_clamp (by omega)]) ?_
  refine lv_i2l hx hb dX6_cutBySegment_64 rfl ?_
  refine lv_aload_n hx hb dX6_cutBySegment_65 rfl (lv_at hl 2 rfl) ?_
  refine va_get (D := g) (ci := 6) (v := .ref zx) (C := RX6) (T := TX6) (N := 21) hx hb hts hiX6 hown hK hP 0 rfl rfl 5 (by decide) (hts (.fieldLink RX6 22 "ShapeRelatorModel" "xs" "[I") (List.mem_of_getElem? (i := 1) rfl)) (fun _ h9 => h9) rfl dX6_cutBySegment_66 ?_
  refine lv_aload_n hx hb dX6_cutBySegment_69 rfl (lv_at hl 2 rfl) ?_
  refine va_get (D := g) (ci := 6) (v := .ref zf) (C := RX6) (T := TX6) (N := 21) hx hb hts hiX6 hown hK hP 0 rfl rfl 8 (by decide) (hts (.fieldLink RX6 28 "ShapeRelatorModel" "from" "[I") (List.mem_of_getElem? (i := 3) rfl)) (fun _ h9 => h9) rfl dX6_cutBySegment_70 ?_
  refine lv_iload_n hx hb dX6_cutBySegment_73 rfl (lv_at hl 4 rfl) ?_
  refine va_iald (D := g) hx hb hK hP 5 0 rfl rfl (vp_in_nI (g3) (by omega)) dX6_cutBySegment_74 ?_
  refine tpi_ (y := (nI p2)) (by rw [nI_clamp (by omega), g4]) ?_
  refine va_iald (D := g) hx hb hK hP 3 0 rfl rfl (vp_in_nI (g1) (by omega)) dX6_cutBySegment_75 ?_
  refine tpi_ (y := (xs p2)) (by rw [nI_clamp (by omega)]) ?_
  refine lv_i2l hx hb dX6_cutBySegment_76 rfl ?_
  refine lv_lsub hx hb dX6_cutBySegment_77 ?_
  refine lv_lstore (lv' := [(7, .long (((xs q2).toInt64) - ((xs p2).toInt64))), (5, .long (((ys q1).toInt64) - ((ys p1).toInt64))), (3, .long (((xs q1).toInt64) - ((xs p1).toInt64))), (0, .ref ma), (1, .int (nI k)), (2, .int (nI j))]) hx hb dX6_cutBySegment_78 hl (by decide) rfl (fun ls hl => ?_)
  refine lv_aload_n hx hb dX6_cutBySegment_80 rfl (lv_at hl 3 rfl) ?_
  refine va_get (D := g) (ci := 6) (v := .ref zy) (C := RX6) (T := TX6) (N := 21) hx hb hts hiX6 hown hK hP 0 rfl rfl 6 (by decide) (hts (.fieldLink RX6 25 "ShapeRelatorModel" "ys" "[I") (List.mem_of_getElem? (i := 4) rfl)) (fun _ h9 => h9) rfl dX6_cutBySegment_81 ?_
  refine lv_aload_n hx hb dX6_cutBySegment_84 rfl (lv_at hl 3 rfl) ?_
  refine va_get (D := g) (ci := 6) (v := .ref zt) (C := RX6) (T := TX6) (N := 21) hx hb hts hiX6 hown hK hP 0 rfl rfl 9 (by decide) (hts (.fieldLink RX6 31 "ShapeRelatorModel" "to" "[I") (List.mem_of_getElem? (i := 2) rfl)) (fun _ h9 => h9) rfl dX6_cutBySegment_85 ?_
  refine lv_iload_n hx hb dX6_cutBySegment_88 rfl (lv_at hl 5 rfl) ?_
  refine va_iald (D := g) hx hb hK hP 6 0 rfl rfl (vp_in_nI (g3) (by omega)) dX6_cutBySegment_89 ?_
  refine tpi_ (y := (nI q2)) (by rw [nI_clamp (by omega), g5]) ?_
  refine va_iald (D := g) hx hb hK hP 4 0 rfl rfl (vp_in_nI (g2) (by omega)) dX6_cutBySegment_90 ?_
  refine tpi_ (y := (ys q2)) (by rw [nI_clamp (by omega)]) ?_
  refine lv_i2l hx hb dX6_cutBySegment_91 rfl ?_
  refine lv_aload_n hx hb dX6_cutBySegment_92 rfl (lv_at hl 3 rfl) ?_
  refine va_get (D := g) (ci := 6) (v := .ref zy) (C := RX6) (T := TX6) (N := 21) hx hb hts hiX6 hown hK hP 0 rfl rfl 6 (by decide) (hts (.fieldLink RX6 25 "ShapeRelatorModel" "ys" "[I") (List.mem_of_getElem? (i := 4) rfl)) (fun _ h9 => h9) rfl dX6_cutBySegment_93 ?_
  refine lv_aload_n hx hb dX6_cutBySegment_96 rfl (lv_at hl 3 rfl) ?_
  refine va_get (D := g) (ci := 6) (v := .ref zf) (C := RX6) (T := TX6) (N := 21) hx hb hts hiX6 hown hK hP 0 rfl rfl 8 (by decide) (hts (.fieldLink RX6 28 "ShapeRelatorModel" "from" "[I") (List.mem_of_getElem? (i := 3) rfl)) (fun _ h9 => h9) rfl dX6_cutBySegment_97 ?_
  refine lv_iload_n hx hb dX6_cutBySegment_100 rfl (lv_at hl 5 rfl) ?_
  refine va_iald (D := g) hx hb hK hP 5 0 rfl rfl (vp_in_nI (g3) (by omega)) dX6_cutBySegment_101 ?_
  refine tpi_ (y := (nI p2)) (by rw [nI_clamp (by omega), g4]) ?_
  refine va_iald (D := g) hx hb hK hP 4 0 rfl rfl (vp_in_nI (g1) (by omega)) dX6_cutBySegment_102 ?_
  refine tpi_ (y := (ys p2)) (by rw [nI_clamp (by omega)]) ?_
  refine lv_i2l hx hb dX6_cutBySegment_103 rfl ?_
  refine lv_lsub hx hb dX6_cutBySegment_104 ?_
  refine lv_lstore (lv' := [(9, .long (((ys q2).toInt64) - ((ys p2).toInt64))), (7, .long (((xs q2).toInt64) - ((xs p2).toInt64))), (5, .long (((ys q1).toInt64) - ((ys p1).toInt64))), (3, .long (((xs q1).toInt64) - ((xs p1).toInt64))), (0, .ref ma), (1, .int (nI k)), (2, .int (nI j))]) hx hb dX6_cutBySegment_105 hl (by decide) rfl (fun ls hl => ?_)
  refine lv_aload_n hx hb dX6_cutBySegment_107 rfl (lv_at hl 4 rfl) ?_
  refine va_get (D := g) (ci := 6) (v := .ref zx) (C := RX6) (T := TX6) (N := 21) hx hb hts hiX6 hown hK hP 0 rfl rfl 5 (by decide) (hts (.fieldLink RX6 22 "ShapeRelatorModel" "xs" "[I") (List.mem_of_getElem? (i := 1) rfl)) (fun _ h9 => h9) rfl dX6_cutBySegment_108 ?_
  refine lv_aload_n hx hb dX6_cutBySegment_111 rfl (lv_at hl 4 rfl) ?_
  refine va_get (D := g) (ci := 6) (v := .ref zf) (C := RX6) (T := TX6) (N := 21) hx hb hts hiX6 hown hK hP 0 rfl rfl 8 (by decide) (hts (.fieldLink RX6 28 "ShapeRelatorModel" "from" "[I") (List.mem_of_getElem? (i := 3) rfl)) (fun _ h9 => h9) rfl dX6_cutBySegment_112 ?_
  refine lv_iload_n hx hb dX6_cutBySegment_115 rfl (lv_at hl 6 rfl) ?_
  refine va_iald (D := g) hx hb hK hP 5 0 rfl rfl (vp_in_nI (g3) (by omega)) dX6_cutBySegment_116 ?_
  refine tpi_ (y := (nI p2)) (by rw [nI_clamp (by omega), g4]) ?_
  refine va_iald (D := g) hx hb hK hP 3 0 rfl rfl (vp_in_nI (g1) (by omega)) dX6_cutBySegment_117 ?_
  refine tpi_ (y := (xs p2)) (by rw [nI_clamp (by omega)]) ?_
  refine lv_i2l hx hb dX6_cutBySegment_118 rfl ?_
  refine lv_aload_n hx hb dX6_cutBySegment_119 rfl (lv_at hl 4 rfl) ?_
  refine va_get (D := g) (ci := 6) (v := .ref zx) (C := RX6) (T := TX6) (N := 21) hx hb hts hiX6 hown hK hP 0 rfl rfl 5 (by decide) (hts (.fieldLink RX6 22 "ShapeRelatorModel" "xs" "[I") (List.mem_of_getElem? (i := 1) rfl)) (fun _ h9 => h9) rfl dX6_cutBySegment_120 ?_
  refine lv_aload_n hx hb dX6_cutBySegment_123 rfl (lv_at hl 4 rfl) ?_
  refine va_get (D := g) (ci := 6) (v := .ref zf) (C := RX6) (T := TX6) (N := 21) hx hb hts hiX6 hown hK hP 0 rfl rfl 8 (by decide) (hts (.fieldLink RX6 28 "ShapeRelatorModel" "from" "[I") (List.mem_of_getElem? (i := 3) rfl)) (fun _ h9 => h9) rfl dX6_cutBySegment_124 ?_
  refine lv_iload_n hx hb dX6_cutBySegment_127 rfl (lv_at hl 5 rfl) ?_
  refine va_iald (D := g) hx hb hK hP 5 0 rfl rfl (vp_in_nI (h3) (by omega)) dX6_cutBySegment_128 ?_
  refine tpi_ (y := (nI p1)) (by rw [nI_clamp (by omega), h4]) ?_
  refine va_iald (D := g) hx hb hK hP 3 0 rfl rfl (vp_in_nI (h1) (by omega)) dX6_cutBySegment_129 ?_
  refine tpi_ (y := (xs p1)) (by rw [nI_clamp (by omega)]) ?_
  refine lv_i2l hx hb dX6_cutBySegment_130 rfl ?_
  refine lv_lsub hx hb dX6_cutBySegment_131 ?_
  refine lv_lstore (lv' := [(11, .long (((xs p2).toInt64) - ((xs p1).toInt64))), (9, .long (((ys q2).toInt64) - ((ys p2).toInt64))), (7, .long (((xs q2).toInt64) - ((xs p2).toInt64))), (5, .long (((ys q1).toInt64) - ((ys p1).toInt64))), (3, .long (((xs q1).toInt64) - ((xs p1).toInt64))), (0, .ref ma), (1, .int (nI k)), (2, .int (nI j))]) hx hb dX6_cutBySegment_132 hl (by decide) rfl (fun ls hl => ?_)
  refine lv_aload_n hx hb dX6_cutBySegment_134 rfl (lv_at hl 5 rfl) ?_
  refine va_get (D := g) (ci := 6) (v := .ref zy) (C := RX6) (T := TX6) (N := 21) hx hb hts hiX6 hown hK hP 0 rfl rfl 6 (by decide) (hts (.fieldLink RX6 25 "ShapeRelatorModel" "ys" "[I") (List.mem_of_getElem? (i := 4) rfl)) (fun _ h9 => h9) rfl dX6_cutBySegment_135 ?_
  refine lv_aload_n hx hb dX6_cutBySegment_138 rfl (lv_at hl 5 rfl) ?_
  refine va_get (D := g) (ci := 6) (v := .ref zf) (C := RX6) (T := TX6) (N := 21) hx hb hts hiX6 hown hK hP 0 rfl rfl 8 (by decide) (hts (.fieldLink RX6 28 "ShapeRelatorModel" "from" "[I") (List.mem_of_getElem? (i := 3) rfl)) (fun _ h9 => h9) rfl dX6_cutBySegment_139 ?_
  refine lv_iload_n hx hb dX6_cutBySegment_142 rfl (lv_at hl 7 rfl) ?_
  refine va_iald (D := g) hx hb hK hP 5 0 rfl rfl (vp_in_nI (g3) (by omega)) dX6_cutBySegment_143 ?_
  refine tpi_ (y := (nI p2)) (by rw [nI_clamp (by omega), g4]) ?_
  refine va_iald (D := g) hx hb hK hP 4 0 rfl rfl (vp_in_nI (g1) (by omega)) dX6_cutBySegment_144 ?_
  refine tpi_ (y := (ys p2)) (by rw [nI_clamp (by omega)]) ?_
  refine lv_i2l hx hb dX6_cutBySegment_145 rfl ?_
  refine lv_aload_n hx hb dX6_cutBySegment_146 rfl (lv_at hl 5 rfl) ?_
  refine va_get (D := g) (ci := 6) (v := .ref zy) (C := RX6) (T := TX6) (N := 21) hx hb hts hiX6 hown hK hP 0 rfl rfl 6 (by decide) (hts (.fieldLink RX6 25 "ShapeRelatorModel" "ys" "[I") (List.mem_of_getElem? (i := 4) rfl)) (fun _ h9 => h9) rfl dX6_cutBySegment_147 ?_
  refine lv_aload_n hx hb dX6_cutBySegment_150 rfl (lv_at hl 5 rfl) ?_
  refine va_get (D := g) (ci := 6) (v := .ref zf) (C := RX6) (T := TX6) (N := 21) hx hb hts hiX6 hown hK hP 0 rfl rfl 8 (by decide) (hts (.fieldLink RX6 28 "ShapeRelatorModel" "from" "[I") (List.mem_of_getElem? (i := 3) rfl)) (fun _ h9 => h9) rfl dX6_cutBySegment_151 ?_
  refine lv_iload_n hx hb dX6_cutBySegment_154 rfl (lv_at hl 6 rfl) ?_
  refine va_iald (D := g) hx hb hK hP 5 0 rfl rfl (vp_in_nI (h3) (by omega)) dX6_cutBySegment_155 ?_
  refine tpi_ (y := (nI p1)) (by rw [nI_clamp (by omega), h4]) ?_
  refine va_iald (D := g) hx hb hK hP 4 0 rfl rfl (vp_in_nI (h1) (by omega)) dX6_cutBySegment_156 ?_
  refine tpi_ (y := (ys p1)) (by rw [nI_clamp (by omega)]) ?_
  refine lv_i2l hx hb dX6_cutBySegment_157 rfl ?_
  refine lv_lsub hx hb dX6_cutBySegment_158 ?_
  refine lv_lstore (lv' := [(13, .long (((ys p2).toInt64) - ((ys p1).toInt64))), (11, .long (((xs p2).toInt64) - ((xs p1).toInt64))), (9, .long (((ys q2).toInt64) - ((ys p2).toInt64))), (7, .long (((xs q2).toInt64) - ((xs p2).toInt64))), (5, .long (((ys q1).toInt64) - ((ys p1).toInt64))), (3, .long (((xs q1).toInt64) - ((xs p1).toInt64))), (0, .ref ma), (1, .int (nI k)), (2, .int (nI j))]) hx hb dX6_cutBySegment_159 hl (by decide) rfl (fun ls hl => ?_)
  refine lv_lload_n hx hb dX6_cutBySegment_161 rfl (lv_at hl 5 rfl) ?_
  refine lv_lload hx hb dX6_cutBySegment_162 (lv_at hl 2 rfl) ?_
  refine lv_lmul hx hb dX6_cutBySegment_164 ?_
  refine lv_lload hx hb dX6_cutBySegment_165 (lv_at hl 4 rfl) ?_
  refine lv_lload hx hb dX6_cutBySegment_167 (lv_at hl 3 rfl) ?_
  refine lv_lmul hx hb dX6_cutBySegment_169 ?_
  refine lv_lsub hx hb dX6_cutBySegment_170 ?_
  refine tpl_ (y := (sqU_ xs ys p1 q1 p2 q2)) rfl ?_
  refine lv_lstore (lv' := [(15, .long (sqU_ xs ys p1 q1 p2 q2)), (13, .long (((ys p2).toInt64) - ((ys p1).toInt64))), (11, .long (((xs p2).toInt64) - ((xs p1).toInt64))), (9, .long (((ys q2).toInt64) - ((ys p2).toInt64))), (7, .long (((xs q2).toInt64) - ((xs p2).toInt64))), (5, .long (((ys q1).toInt64) - ((ys p1).toInt64))), (3, .long (((xs q1).toInt64) - ((xs p1).toInt64))), (0, .ref ma), (1, .int (nI k)), (2, .int (nI j))]) hx hb dX6_cutBySegment_171 hl (by decide) rfl (fun ls hl => ?_)
  refine lv_lload hx hb dX6_cutBySegment_173 (lv_at hl 2 rfl) ?_
  refine lv_lload hx hb dX6_cutBySegment_175 (lv_at hl 3 rfl) ?_
  refine lv_lmul hx hb dX6_cutBySegment_177 ?_
  refine lv_lload hx hb dX6_cutBySegment_178 (lv_at hl 1 rfl) ?_
  refine lv_lload hx hb dX6_cutBySegment_180 (lv_at hl 4 rfl) ?_
  refine lv_lmul hx hb dX6_cutBySegment_182 ?_
  refine lv_lsub hx hb dX6_cutBySegment_183 ?_
  refine tpl_ (y := (sqO_ xs ys p1 p2 q2)) rfl ?_
  refine lv_lstore (lv' := [(17, .long (sqO_ xs ys p1 p2 q2)), (15, .long (sqU_ xs ys p1 q1 p2 q2)), (13, .long (((ys p2).toInt64) - ((ys p1).toInt64))), (11, .long (((xs p2).toInt64) - ((xs p1).toInt64))), (9, .long (((ys q2).toInt64) - ((ys p2).toInt64))), (7, .long (((xs q2).toInt64) - ((xs p2).toInt64))), (5, .long (((ys q1).toInt64) - ((ys p1).toInt64))), (3, .long (((xs q1).toInt64) - ((xs p1).toInt64))), (0, .ref ma), (1, .int (nI k)), (2, .int (nI j))]) hx hb dX6_cutBySegment_184 hl (by decide) rfl (fun ls hl => ?_)
  refine lv_lload hx hb dX6_cutBySegment_186 (lv_at hl 3 rfl) ?_
  refine lv_lload hx hb dX6_cutBySegment_188 (lv_at hl 6 rfl) ?_
  refine lv_lmul hx hb dX6_cutBySegment_190 ?_
  refine lv_lload hx hb dX6_cutBySegment_191 (lv_at hl 2 rfl) ?_
  refine lv_lload_n hx hb dX6_cutBySegment_193 rfl (lv_at hl 7 rfl) ?_
  refine lv_lmul hx hb dX6_cutBySegment_194 ?_
  refine lv_lsub hx hb dX6_cutBySegment_195 ?_
  refine tpl_ (y := (sqT_ xs ys p1 q1 p2)) rfl ?_
  refine lv_lstore (lv' := [(19, .long (sqT_ xs ys p1 q1 p2)), (17, .long (sqO_ xs ys p1 p2 q2)), (15, .long (sqU_ xs ys p1 q1 p2 q2)), (13, .long (((ys p2).toInt64) - ((ys p1).toInt64))), (11, .long (((xs p2).toInt64) - ((xs p1).toInt64))), (9, .long (((ys q2).toInt64) - ((ys p2).toInt64))), (7, .long (((xs q2).toInt64) - ((xs p2).toInt64))), (5, .long (((ys q1).toInt64) - ((ys p1).toInt64))), (3, .long (((xs q1).toInt64) - ((xs p1).toInt64))), (0, .ref ma), (1, .int (nI k)), (2, .int (nI j))]) hx hb dX6_cutBySegment_196 hl (by decide) rfl (fun ls hl => ?_)
  refine lv_lload hx hb dX6_cutBySegment_198 (lv_at hl 2 rfl) ?_
  refine lv_lconst (v := 0) hx hb dX6_cutBySegment_200 (by decide) ?_
  refine W.lcmp hx hb dX6_cutBySegment_201 ?_
  refine lv_if_ge (tgt := 220) hx hb dX6_cutBySegment_202 (by decide) (fun c1 => ?_) (fun c1 => ?_)
  · have hc : csq_ xs ys p1 q1 p2 q2 = csc_ (sqO_ xs ys p1 p2 q2) (sqU_ xs ys p1 q1 p2 q2) (sqT_ xs ys p1 q1 p2) := by unfold csq_ sgN_; simp only [if_neg (Int64.not_lt.mpr ((lg_cmp_ge _ _).mp c1))]
    refine lv_lload hx hb dX6_cutBySegment_220 (lv_at hl 1 rfl) ?_
    refine lv_lconst (v := 0) hx hb dX6_cutBySegment_222 (by decide) ?_
    refine W.lcmp hx hb dX6_cutBySegment_223 ?_
    refine lv_if_le (tgt := 258) hx hb dX6_cutBySegment_224 (by decide) (fun d1 => ?_) (fun d1 => ?_)
    · have en : (csq_ xs ys p1 q1 p2 q2).foldl ins_ F = F := by rw [hc]; unfold csc_; rw [if_neg (fun h => Int64.not_le.mpr h.1 ((lg_cmp_le _ _).mp d1))]; rfl
      rw [← en] at hP hD
      have hP : va_P g vwCl [(ma, .inr (6, mo_ th zk zp za zb zx zy sn zf zt zw zm zh x0 y0 dx dy zz (nI ((csq_ xs ys p1 q1 p2 q2).foldl ins_ F).length) zo zu)), (zo, .inl (cJ, 12400, .inr (.inl ov))), (zu, .inl (cJ, 12400, .inr (.inl un))), (zx, .inl (cI, 4096, .inl xs)), (zy, .inl (cI, 4096, .inl ys)), (zf, .inl (cI, 4096, .inl fr)), (zt, .inl (cI, 4096, .inl to1))] s.heap := hP
      have hD : va_D A [(ma, .inr (6, mo_ th zk zp za zb zx zy sn zf zt zw zm zh x0 y0 dx dy zz (nI ((csq_ xs ys p1 q1 p2 q2).foldl ins_ F).length) zo zu)), (zo, .inl (cJ, 12400, .inr (.inl ov))), (zu, .inl (cJ, 12400, .inr (.inl un))), (zx, .inl (cI, 4096, .inl xs)), (zy, .inl (cI, 4096, .inl ys)), (zf, .inl (cI, 4096, .inl fr)), (zt, .inl (cI, 4096, .inl to1))] := hD
      have hP9 := hP.sub (ws' := [(ma, .inr (6, mo_ th zk zp za zb zx zy sn zf zt zw zm zh x0 y0 dx dy zz (nI ((csq_ xs ys p1 q1 p2 q2).foldl ins_ F).length) zo zu)), (zo, .inl (cJ, 12400, .inr (.inl ov))), (zu, .inl (cJ, 12400, .inr (.inl un))), (zx, .inl (cI, 4096, .inl xs)), (zy, .inl (cI, 4096, .inl ys)), (zf, .inl (cI, 4096, .inl fr)), (zt, .inl (cI, 4096, .inl to1))]) [0, 1, 2, 3, 4, 5, 6] rfl
      have hD9 := hD.sub (ws' := [(ma, .inr (6, mo_ th zk zp za zb zx zy sn zf zt zw zm zh x0 y0 dx dy zz (nI ((csq_ xs ys p1 q1 p2 q2).foldl ins_ F).length) zo zu)), (zo, .inl (cJ, 12400, .inr (.inl ov))), (zu, .inl (cJ, 12400, .inr (.inl un))), (zx, .inl (cI, 4096, .inl xs)), (zy, .inl (cI, 4096, .inl ys)), (zf, .inl (cI, 4096, .inl fr)), (zt, .inl (cI, 4096, .inl to1))]) [0, 1, 2, 3, 4, 5, 6] (by decide) rfl
      exact W.vret hx hb hr (fun t ht hW => ⟨⟨(ov, un), rfl, by rw [en]; exact hf, by rw [ht]; exact hP9, va_K.moved hW.alike hK, hD9⟩, hS.F ht⟩) hS.2.2 dX6_cutBySegment_258
    · refine lv_lload hx hb dX6_cutBySegment_227 (lv_at hl 1 rfl) ?_
      refine lv_lload hx hb dX6_cutBySegment_229 (lv_at hl 2 rfl) ?_
      refine W.lcmp hx hb dX6_cutBySegment_231 ?_
      refine lv_if_ge (tgt := 258) hx hb dX6_cutBySegment_232 (by decide) (fun d2 => ?_) (fun d2 => ?_)
      · have en : (csq_ xs ys p1 q1 p2 q2).foldl ins_ F = F := by rw [hc]; unfold csc_; rw [if_neg (fun h => Int64.not_le.mpr h.2.1 ((lg_cmp_ge _ _).mp d2))]; rfl
        rw [← en] at hP hD
        have hP : va_P g vwCl [(ma, .inr (6, mo_ th zk zp za zb zx zy sn zf zt zw zm zh x0 y0 dx dy zz (nI ((csq_ xs ys p1 q1 p2 q2).foldl ins_ F).length) zo zu)), (zo, .inl (cJ, 12400, .inr (.inl ov))), (zu, .inl (cJ, 12400, .inr (.inl un))), (zx, .inl (cI, 4096, .inl xs)), (zy, .inl (cI, 4096, .inl ys)), (zf, .inl (cI, 4096, .inl fr)), (zt, .inl (cI, 4096, .inl to1))] s.heap := hP
        have hD : va_D A [(ma, .inr (6, mo_ th zk zp za zb zx zy sn zf zt zw zm zh x0 y0 dx dy zz (nI ((csq_ xs ys p1 q1 p2 q2).foldl ins_ F).length) zo zu)), (zo, .inl (cJ, 12400, .inr (.inl ov))), (zu, .inl (cJ, 12400, .inr (.inl un))), (zx, .inl (cI, 4096, .inl xs)), (zy, .inl (cI, 4096, .inl ys)), (zf, .inl (cI, 4096, .inl fr)), (zt, .inl (cI, 4096, .inl to1))] := hD
        have hP9 := hP.sub (ws' := [(ma, .inr (6, mo_ th zk zp za zb zx zy sn zf zt zw zm zh x0 y0 dx dy zz (nI ((csq_ xs ys p1 q1 p2 q2).foldl ins_ F).length) zo zu)), (zo, .inl (cJ, 12400, .inr (.inl ov))), (zu, .inl (cJ, 12400, .inr (.inl un))), (zx, .inl (cI, 4096, .inl xs)), (zy, .inl (cI, 4096, .inl ys)), (zf, .inl (cI, 4096, .inl fr)), (zt, .inl (cI, 4096, .inl to1))]) [0, 1, 2, 3, 4, 5, 6] rfl
        have hD9 := hD.sub (ws' := [(ma, .inr (6, mo_ th zk zp za zb zx zy sn zf zt zw zm zh x0 y0 dx dy zz (nI ((csq_ xs ys p1 q1 p2 q2).foldl ins_ F).length) zo zu)), (zo, .inl (cJ, 12400, .inr (.inl ov))), (zu, .inl (cJ, 12400, .inr (.inl un))), (zx, .inl (cI, 4096, .inl xs)), (zy, .inl (cI, 4096, .inl ys)), (zf, .inl (cI, 4096, .inl fr)), (zt, .inl (cI, 4096, .inl to1))]) [0, 1, 2, 3, 4, 5, 6] (by decide) rfl
        exact W.vret hx hb hr (fun t ht hW => ⟨⟨(ov, un), rfl, by rw [en]; exact hf, by rw [ht]; exact hP9, va_K.moved hW.alike hK, hD9⟩, hS.F ht⟩) hS.2.2 dX6_cutBySegment_258
      · refine lv_lload hx hb dX6_cutBySegment_235 (lv_at hl 0 rfl) ?_
        refine lv_lconst (v := 0) hx hb dX6_cutBySegment_237 (by decide) ?_
        refine W.lcmp hx hb dX6_cutBySegment_238 ?_
        refine lv_if_le (tgt := 258) hx hb dX6_cutBySegment_239 (by decide) (fun d3 => ?_) (fun d3 => ?_)
        · have en : (csq_ xs ys p1 q1 p2 q2).foldl ins_ F = F := by rw [hc]; unfold csc_; rw [if_neg (fun h => Int64.not_le.mpr h.2.2.1 ((lg_cmp_le _ _).mp d3))]; rfl
          rw [← en] at hP hD
          have hP : va_P g vwCl [(ma, .inr (6, mo_ th zk zp za zb zx zy sn zf zt zw zm zh x0 y0 dx dy zz (nI ((csq_ xs ys p1 q1 p2 q2).foldl ins_ F).length) zo zu)), (zo, .inl (cJ, 12400, .inr (.inl ov))), (zu, .inl (cJ, 12400, .inr (.inl un))), (zx, .inl (cI, 4096, .inl xs)), (zy, .inl (cI, 4096, .inl ys)), (zf, .inl (cI, 4096, .inl fr)), (zt, .inl (cI, 4096, .inl to1))] s.heap := hP
          have hD : va_D A [(ma, .inr (6, mo_ th zk zp za zb zx zy sn zf zt zw zm zh x0 y0 dx dy zz (nI ((csq_ xs ys p1 q1 p2 q2).foldl ins_ F).length) zo zu)), (zo, .inl (cJ, 12400, .inr (.inl ov))), (zu, .inl (cJ, 12400, .inr (.inl un))), (zx, .inl (cI, 4096, .inl xs)), (zy, .inl (cI, 4096, .inl ys)), (zf, .inl (cI, 4096, .inl fr)), (zt, .inl (cI, 4096, .inl to1))] := hD
          have hP9 := hP.sub (ws' := [(ma, .inr (6, mo_ th zk zp za zb zx zy sn zf zt zw zm zh x0 y0 dx dy zz (nI ((csq_ xs ys p1 q1 p2 q2).foldl ins_ F).length) zo zu)), (zo, .inl (cJ, 12400, .inr (.inl ov))), (zu, .inl (cJ, 12400, .inr (.inl un))), (zx, .inl (cI, 4096, .inl xs)), (zy, .inl (cI, 4096, .inl ys)), (zf, .inl (cI, 4096, .inl fr)), (zt, .inl (cI, 4096, .inl to1))]) [0, 1, 2, 3, 4, 5, 6] rfl
          have hD9 := hD.sub (ws' := [(ma, .inr (6, mo_ th zk zp za zb zx zy sn zf zt zw zm zh x0 y0 dx dy zz (nI ((csq_ xs ys p1 q1 p2 q2).foldl ins_ F).length) zo zu)), (zo, .inl (cJ, 12400, .inr (.inl ov))), (zu, .inl (cJ, 12400, .inr (.inl un))), (zx, .inl (cI, 4096, .inl xs)), (zy, .inl (cI, 4096, .inl ys)), (zf, .inl (cI, 4096, .inl fr)), (zt, .inl (cI, 4096, .inl to1))]) [0, 1, 2, 3, 4, 5, 6] (by decide) rfl
          exact W.vret hx hb hr (fun t ht hW => ⟨⟨(ov, un), rfl, by rw [en]; exact hf, by rw [ht]; exact hP9, va_K.moved hW.alike hK, hD9⟩, hS.F ht⟩) hS.2.2 dX6_cutBySegment_258
        · refine lv_lload hx hb dX6_cutBySegment_242 (lv_at hl 0 rfl) ?_
          refine lv_lload hx hb dX6_cutBySegment_244 (lv_at hl 2 rfl) ?_
          refine W.lcmp hx hb dX6_cutBySegment_246 ?_
          refine lv_if_ge (tgt := 258) hx hb dX6_cutBySegment_247 (by decide) (fun d4 => ?_) (fun d4 => ?_)
          · have en : (csq_ xs ys p1 q1 p2 q2).foldl ins_ F = F := by rw [hc]; unfold csc_; rw [if_neg (fun h => Int64.not_le.mpr h.2.2.2 ((lg_cmp_ge _ _).mp d4))]; rfl
            rw [← en] at hP hD
            have hP : va_P g vwCl [(ma, .inr (6, mo_ th zk zp za zb zx zy sn zf zt zw zm zh x0 y0 dx dy zz (nI ((csq_ xs ys p1 q1 p2 q2).foldl ins_ F).length) zo zu)), (zo, .inl (cJ, 12400, .inr (.inl ov))), (zu, .inl (cJ, 12400, .inr (.inl un))), (zx, .inl (cI, 4096, .inl xs)), (zy, .inl (cI, 4096, .inl ys)), (zf, .inl (cI, 4096, .inl fr)), (zt, .inl (cI, 4096, .inl to1))] s.heap := hP
            have hD : va_D A [(ma, .inr (6, mo_ th zk zp za zb zx zy sn zf zt zw zm zh x0 y0 dx dy zz (nI ((csq_ xs ys p1 q1 p2 q2).foldl ins_ F).length) zo zu)), (zo, .inl (cJ, 12400, .inr (.inl ov))), (zu, .inl (cJ, 12400, .inr (.inl un))), (zx, .inl (cI, 4096, .inl xs)), (zy, .inl (cI, 4096, .inl ys)), (zf, .inl (cI, 4096, .inl fr)), (zt, .inl (cI, 4096, .inl to1))] := hD
            have hP9 := hP.sub (ws' := [(ma, .inr (6, mo_ th zk zp za zb zx zy sn zf zt zw zm zh x0 y0 dx dy zz (nI ((csq_ xs ys p1 q1 p2 q2).foldl ins_ F).length) zo zu)), (zo, .inl (cJ, 12400, .inr (.inl ov))), (zu, .inl (cJ, 12400, .inr (.inl un))), (zx, .inl (cI, 4096, .inl xs)), (zy, .inl (cI, 4096, .inl ys)), (zf, .inl (cI, 4096, .inl fr)), (zt, .inl (cI, 4096, .inl to1))]) [0, 1, 2, 3, 4, 5, 6] rfl
            have hD9 := hD.sub (ws' := [(ma, .inr (6, mo_ th zk zp za zb zx zy sn zf zt zw zm zh x0 y0 dx dy zz (nI ((csq_ xs ys p1 q1 p2 q2).foldl ins_ F).length) zo zu)), (zo, .inl (cJ, 12400, .inr (.inl ov))), (zu, .inl (cJ, 12400, .inr (.inl un))), (zx, .inl (cI, 4096, .inl xs)), (zy, .inl (cI, 4096, .inl ys)), (zf, .inl (cI, 4096, .inl fr)), (zt, .inl (cI, 4096, .inl to1))]) [0, 1, 2, 3, 4, 5, 6] (by decide) rfl
            exact W.vret hx hb hr (fun t ht hW => ⟨⟨(ov, un), rfl, by rw [en]; exact hf, by rw [ht]; exact hP9, va_K.moved hW.alike hK, hD9⟩, hS.F ht⟩) hS.2.2 dX6_cutBySegment_258
          · have k1 := Int64.not_le.mp (fun h => d1 ((lg_cmp_le _ _).mpr h))
            have k2 := Int64.not_le.mp (fun h => d2 ((lg_cmp_ge _ _).mpr h))
            have k3 := Int64.not_le.mp (fun h => d3 ((lg_cmp_le _ _).mpr h))
            have k4 := Int64.not_le.mp (fun h => d4 ((lg_cmp_ge _ _).mpr h))
            obtain ⟨x1, x2, x3, x4⟩ := csc_k k1 k2
            have en : (csq_ xs ys p1 q1 p2 q2).foldl ins_ F = ins_ F (lq_ (sqO_ xs ys p1 p2 q2), lq_ (sqU_ xs ys p1 q1 p2 q2)) := by rw [hc]; unfold csc_; rw [if_pos ⟨k1, k2, k3, k4⟩]; rfl
            refine lv_aload_n hx hb dX6_cutBySegment_250 rfl (lv_at hl 9 rfl) ?_
            refine lv_lload hx hb dX6_cutBySegment_251 (lv_at hl 1 rfl) ?_
            refine lv_lload hx hb dX6_cutBySegment_253 (lv_at hl 2 rfl) ?_
            refine st2_ (y1 := lN (lq_ (sqU_ xs ys p1 q1 p2 q2))) (y2 := lN (lq_ (sqO_ xs ys p1 p2 q2))) x2.symm x1.symm ?_
            have hPc := hP.sub (ws' := [(ma, .inr (6, mo_ th zk zp za zb zx zy sn zf zt zw zm zh x0 y0 dx dy zz (nI F.length) zo zu)), (zo, .inl (cJ, 12400, .inr (.inl ov))), (zu, .inl (cJ, 12400, .inr (.inl un)))]) [0, 1, 2] rfl
            have hDc := hD.sub (ws' := [(ma, .inr (6, mo_ th zk zp za zb zx zy sn zf zt zw zm zh x0 y0 dx dy zz (nI F.length) zo zu)), (zo, .inl (cJ, 12400, .inr (.inl ov))), (zu, .inl (cJ, 12400, .inr (.inl un)))]) [0, 1, 2] (by decide) rfl
            have hFc := va_free (wc := [(ma, .inr (6, mo_ th zk zp za zb zx zy sn zf zt zw zm zh x0 y0 dx dy zz (nI F.length) zo zu)), (zo, .inl (cJ, 12400, .inr (.inl ov))), (zu, .inl (cJ, 12400, .inr (.inl un)))]) hD hS hA [0, 1, 2] rfl
            refine va_callv (va_runV (As := [.long (lN (lq_ (sqO_ xs ys p1 p2 q2))), .long (lN (lq_ (sqU_ xs ys p1 q1 p2 q2)))]) (rest := []) ⟨hx, hb, hml, hown, hts⟩ (kX6_cut l g cI cJ cZ s.heap.size ma th sn x0 y0 dx dy zk zp za zb zx zy zf zt zw zm zh zz zo zu ov un F (lq_ (sqO_ xs ys p1 p2 q2)) (lq_ (sqU_ xs ys p1 q1 p2 q2)) hf hk1 hln x3 x4) (cwV 2 hts gX6_cutBySegment_X6_cut rfl rfl rfl (by decide +kernel) ⟨Nat.le_of_ble_eq_true rfl, Nat.le_of_ble_eq_true rfl⟩) (pv_ hK hPc hDc (va_recv hK hPc (ci := 6) (q0 := 0) rfl rfl)) rfl rfl hl.1 rfl (lv_room (Nat.le_of_ble_eq_true rfl)) dX6_cutBySegment_255 ⟨Nat.zero_le _, Nat.zero_le _⟩) hS (fun q _ h => hFc q h) hFc (fun u t H1 locs ht hvm hw3 hB hz1 hk1 hS => ?_)
            obtain ⟨ov3, un3⟩ := u
            obtain ⟨hP1, hK1, hD1⟩ := hB
            rw [ht] at hP1
            dsimp only at hw3
            obtain ⟨hP, hD⟩ := va_join (wr := [(zx, .inl (cI, 4096, .inl xs)), (zy, .inl (cI, 4096, .inl ys)), (zf, .inl (cI, 4096, .inl fr)), (zt, .inl (cI, 4096, .inl to1))]) (w1 := [(ma, .inr (6, mo_ th zk zp za zb zx zy sn zf zt zw zm zh x0 y0 dx dy zz (nI (ins_ F ((lq_ (sqO_ xs ys p1 p2 q2)), (lq_ (sqU_ xs ys p1 q1 p2 q2)))).length) zo zu)), (zo, .inl (cJ, 12400, .inr (.inl ov3))), (zu, .inl (cJ, 12400, .inr (.inl un3)))]) hP hD [0, 1, 2] [3, 4, 5, 6] rfl rfl (by decide) (by decide) hk1 hFc hP1 hD1
            clear hPc hDc hFc hP1 hD1 hK1 hk1 hz1 hvm ht
            generalize H1 = H at hP hS ⊢
            have hP : va_P g vwCl [(zx, .inl (cI, 4096, .inl xs)), (zy, .inl (cI, 4096, .inl ys)), (zf, .inl (cI, 4096, .inl fr)), (zt, .inl (cI, 4096, .inl to1)), (ma, .inr (6, mo_ th zk zp za zb zx zy sn zf zt zw zm zh x0 y0 dx dy zz (nI (ins_ F ((lq_ (sqO_ xs ys p1 p2 q2)), (lq_ (sqU_ xs ys p1 q1 p2 q2)))).length) zo zu)), (zo, .inl (cJ, 12400, .inr (.inl ov3))), (zu, .inl (cJ, 12400, .inr (.inl un3)))] H := hP
            have hD : va_D A [(zx, .inl (cI, 4096, .inl xs)), (zy, .inl (cI, 4096, .inl ys)), (zf, .inl (cI, 4096, .inl fr)), (zt, .inl (cI, 4096, .inl to1)), (ma, .inr (6, mo_ th zk zp za zb zx zy sn zf zt zw zm zh x0 y0 dx dy zz (nI (ins_ F ((lq_ (sqO_ xs ys p1 p2 q2)), (lq_ (sqU_ xs ys p1 q1 p2 q2)))).length) zo zu)), (zo, .inl (cJ, 12400, .inr (.inl ov3))), (zu, .inl (cJ, 12400, .inr (.inl un3)))] := hD
            rw [← en] at hP hD hw3
            have hP : va_P g vwCl [(zx, .inl (cI, 4096, .inl xs)), (zy, .inl (cI, 4096, .inl ys)), (zf, .inl (cI, 4096, .inl fr)), (zt, .inl (cI, 4096, .inl to1)), (ma, .inr (6, mo_ th zk zp za zb zx zy sn zf zt zw zm zh x0 y0 dx dy zz (nI ((csq_ xs ys p1 q1 p2 q2).foldl ins_ F).length) zo zu)), (zo, .inl (cJ, 12400, .inr (.inl ov3))), (zu, .inl (cJ, 12400, .inr (.inl un3)))] H := hP
            have hD : va_D A [(zx, .inl (cI, 4096, .inl xs)), (zy, .inl (cI, 4096, .inl ys)), (zf, .inl (cI, 4096, .inl fr)), (zt, .inl (cI, 4096, .inl to1)), (ma, .inr (6, mo_ th zk zp za zb zx zy sn zf zt zw zm zh x0 y0 dx dy zz (nI ((csq_ xs ys p1 q1 p2 q2).foldl ins_ F).length) zo zu)), (zo, .inl (cJ, 12400, .inr (.inl ov3))), (zu, .inl (cJ, 12400, .inr (.inl un3)))] := hD
            have hP9 := hP.sub (ws' := [(ma, .inr (6, mo_ th zk zp za zb zx zy sn zf zt zw zm zh x0 y0 dx dy zz (nI ((csq_ xs ys p1 q1 p2 q2).foldl ins_ F).length) zo zu)), (zo, .inl (cJ, 12400, .inr (.inl ov3))), (zu, .inl (cJ, 12400, .inr (.inl un3))), (zx, .inl (cI, 4096, .inl xs)), (zy, .inl (cI, 4096, .inl ys)), (zf, .inl (cI, 4096, .inl fr)), (zt, .inl (cI, 4096, .inl to1))]) [4, 5, 6, 0, 1, 2, 3] rfl
            have hD9 := hD.sub (ws' := [(ma, .inr (6, mo_ th zk zp za zb zx zy sn zf zt zw zm zh x0 y0 dx dy zz (nI ((csq_ xs ys p1 q1 p2 q2).foldl ins_ F).length) zo zu)), (zo, .inl (cJ, 12400, .inr (.inl ov3))), (zu, .inl (cJ, 12400, .inr (.inl un3))), (zx, .inl (cI, 4096, .inl xs)), (zy, .inl (cI, 4096, .inl ys)), (zf, .inl (cI, 4096, .inl fr)), (zt, .inl (cI, 4096, .inl to1))]) [4, 5, 6, 0, 1, 2, 3] (by decide) rfl
            exact W.vret hx hb hr (fun t ht hW => ⟨⟨(ov3, un3), rfl, hw3, by rw [ht]; exact hP9, va_K.moved hW.alike hK, hD9⟩, hS.F ht⟩) hS.2.2 dX6_cutBySegment_258
  · refine lv_lload hx hb dX6_cutBySegment_205 (lv_at hl 2 rfl) ?_
    refine lv_lneg hx hb dX6_cutBySegment_207 ?_
    refine lv_lstore (lv' := [(15, .long (-(sqU_ xs ys p1 q1 p2 q2))), (19, .long (sqT_ xs ys p1 q1 p2)), (17, .long (sqO_ xs ys p1 p2 q2)), (13, .long (((ys p2).toInt64) - ((ys p1).toInt64))), (11, .long (((xs p2).toInt64) - ((xs p1).toInt64))), (9, .long (((ys q2).toInt64) - ((ys p2).toInt64))), (7, .long (((xs q2).toInt64) - ((xs p2).toInt64))), (5, .long (((ys q1).toInt64) - ((ys p1).toInt64))), (3, .long (((xs q1).toInt64) - ((xs p1).toInt64))), (0, .ref ma), (1, .int (nI k)), (2, .int (nI j))]) hx hb dX6_cutBySegment_208 hl (by decide) rfl (fun ls hl => ?_)
    refine lv_lload hx hb dX6_cutBySegment_210 (lv_at hl 2 rfl) ?_
    refine lv_lneg hx hb dX6_cutBySegment_212 ?_
    refine lv_lstore (lv' := [(17, .long (-(sqO_ xs ys p1 p2 q2))), (15, .long (-(sqU_ xs ys p1 q1 p2 q2))), (19, .long (sqT_ xs ys p1 q1 p2)), (13, .long (((ys p2).toInt64) - ((ys p1).toInt64))), (11, .long (((xs p2).toInt64) - ((xs p1).toInt64))), (9, .long (((ys q2).toInt64) - ((ys p2).toInt64))), (7, .long (((xs q2).toInt64) - ((xs p2).toInt64))), (5, .long (((ys q1).toInt64) - ((ys p1).toInt64))), (3, .long (((xs q1).toInt64) - ((xs p1).toInt64))), (0, .ref ma), (1, .int (nI k)), (2, .int (nI j))]) hx hb dX6_cutBySegment_213 hl (by decide) rfl (fun ls hl => ?_)
    refine lv_lload hx hb dX6_cutBySegment_215 (lv_at hl 2 rfl) ?_
    refine lv_lneg hx hb dX6_cutBySegment_217 ?_
    refine lv_lstore (lv' := [(19, .long (-(sqT_ xs ys p1 q1 p2))), (17, .long (-(sqO_ xs ys p1 p2 q2))), (15, .long (-(sqU_ xs ys p1 q1 p2 q2))), (13, .long (((ys p2).toInt64) - ((ys p1).toInt64))), (11, .long (((xs p2).toInt64) - ((xs p1).toInt64))), (9, .long (((ys q2).toInt64) - ((ys p2).toInt64))), (7, .long (((xs q2).toInt64) - ((xs p2).toInt64))), (5, .long (((ys q1).toInt64) - ((ys p1).toInt64))), (3, .long (((xs q1).toInt64) - ((xs p1).toInt64))), (0, .ref ma), (1, .int (nI k)), (2, .int (nI j))]) hx hb dX6_cutBySegment_218 hl (by decide) rfl (fun ls hl => ?_)
    have hc : csq_ xs ys p1 q1 p2 q2 = csc_ (-(sqO_ xs ys p1 p2 q2)) (-(sqU_ xs ys p1 q1 p2 q2)) (-(sqT_ xs ys p1 q1 p2)) := by unfold csq_ sgN_; simp only [if_pos (Int64.not_le.mp (fun h => c1 ((lg_cmp_ge _ _).mpr h)))]
    refine lv_lload hx hb dX6_cutBySegment_220 (lv_at hl 1 rfl) ?_
    refine lv_lconst (v := 0) hx hb dX6_cutBySegment_222 (by decide) ?_
    refine W.lcmp hx hb dX6_cutBySegment_223 ?_
    refine lv_if_le (tgt := 258) hx hb dX6_cutBySegment_224 (by decide) (fun d1 => ?_) (fun d1 => ?_)
    · have en : (csq_ xs ys p1 q1 p2 q2).foldl ins_ F = F := by rw [hc]; unfold csc_; rw [if_neg (fun h => Int64.not_le.mpr h.1 ((lg_cmp_le _ _).mp d1))]; rfl
      rw [← en] at hP hD
      have hP : va_P g vwCl [(ma, .inr (6, mo_ th zk zp za zb zx zy sn zf zt zw zm zh x0 y0 dx dy zz (nI ((csq_ xs ys p1 q1 p2 q2).foldl ins_ F).length) zo zu)), (zo, .inl (cJ, 12400, .inr (.inl ov))), (zu, .inl (cJ, 12400, .inr (.inl un))), (zx, .inl (cI, 4096, .inl xs)), (zy, .inl (cI, 4096, .inl ys)), (zf, .inl (cI, 4096, .inl fr)), (zt, .inl (cI, 4096, .inl to1))] s.heap := hP
      have hD : va_D A [(ma, .inr (6, mo_ th zk zp za zb zx zy sn zf zt zw zm zh x0 y0 dx dy zz (nI ((csq_ xs ys p1 q1 p2 q2).foldl ins_ F).length) zo zu)), (zo, .inl (cJ, 12400, .inr (.inl ov))), (zu, .inl (cJ, 12400, .inr (.inl un))), (zx, .inl (cI, 4096, .inl xs)), (zy, .inl (cI, 4096, .inl ys)), (zf, .inl (cI, 4096, .inl fr)), (zt, .inl (cI, 4096, .inl to1))] := hD
      have hP9 := hP.sub (ws' := [(ma, .inr (6, mo_ th zk zp za zb zx zy sn zf zt zw zm zh x0 y0 dx dy zz (nI ((csq_ xs ys p1 q1 p2 q2).foldl ins_ F).length) zo zu)), (zo, .inl (cJ, 12400, .inr (.inl ov))), (zu, .inl (cJ, 12400, .inr (.inl un))), (zx, .inl (cI, 4096, .inl xs)), (zy, .inl (cI, 4096, .inl ys)), (zf, .inl (cI, 4096, .inl fr)), (zt, .inl (cI, 4096, .inl to1))]) [0, 1, 2, 3, 4, 5, 6] rfl
      have hD9 := hD.sub (ws' := [(ma, .inr (6, mo_ th zk zp za zb zx zy sn zf zt zw zm zh x0 y0 dx dy zz (nI ((csq_ xs ys p1 q1 p2 q2).foldl ins_ F).length) zo zu)), (zo, .inl (cJ, 12400, .inr (.inl ov))), (zu, .inl (cJ, 12400, .inr (.inl un))), (zx, .inl (cI, 4096, .inl xs)), (zy, .inl (cI, 4096, .inl ys)), (zf, .inl (cI, 4096, .inl fr)), (zt, .inl (cI, 4096, .inl to1))]) [0, 1, 2, 3, 4, 5, 6] (by decide) rfl
      exact W.vret hx hb hr (fun t ht hW => ⟨⟨(ov, un), rfl, by rw [en]; exact hf, by rw [ht]; exact hP9, va_K.moved hW.alike hK, hD9⟩, hS.F ht⟩) hS.2.2 dX6_cutBySegment_258
    · refine lv_lload hx hb dX6_cutBySegment_227 (lv_at hl 1 rfl) ?_
      refine lv_lload hx hb dX6_cutBySegment_229 (lv_at hl 2 rfl) ?_
      refine W.lcmp hx hb dX6_cutBySegment_231 ?_
      refine lv_if_ge (tgt := 258) hx hb dX6_cutBySegment_232 (by decide) (fun d2 => ?_) (fun d2 => ?_)
      · have en : (csq_ xs ys p1 q1 p2 q2).foldl ins_ F = F := by rw [hc]; unfold csc_; rw [if_neg (fun h => Int64.not_le.mpr h.2.1 ((lg_cmp_ge _ _).mp d2))]; rfl
        rw [← en] at hP hD
        have hP : va_P g vwCl [(ma, .inr (6, mo_ th zk zp za zb zx zy sn zf zt zw zm zh x0 y0 dx dy zz (nI ((csq_ xs ys p1 q1 p2 q2).foldl ins_ F).length) zo zu)), (zo, .inl (cJ, 12400, .inr (.inl ov))), (zu, .inl (cJ, 12400, .inr (.inl un))), (zx, .inl (cI, 4096, .inl xs)), (zy, .inl (cI, 4096, .inl ys)), (zf, .inl (cI, 4096, .inl fr)), (zt, .inl (cI, 4096, .inl to1))] s.heap := hP
        have hD : va_D A [(ma, .inr (6, mo_ th zk zp za zb zx zy sn zf zt zw zm zh x0 y0 dx dy zz (nI ((csq_ xs ys p1 q1 p2 q2).foldl ins_ F).length) zo zu)), (zo, .inl (cJ, 12400, .inr (.inl ov))), (zu, .inl (cJ, 12400, .inr (.inl un))), (zx, .inl (cI, 4096, .inl xs)), (zy, .inl (cI, 4096, .inl ys)), (zf, .inl (cI, 4096, .inl fr)), (zt, .inl (cI, 4096, .inl to1))] := hD
        have hP9 := hP.sub (ws' := [(ma, .inr (6, mo_ th zk zp za zb zx zy sn zf zt zw zm zh x0 y0 dx dy zz (nI ((csq_ xs ys p1 q1 p2 q2).foldl ins_ F).length) zo zu)), (zo, .inl (cJ, 12400, .inr (.inl ov))), (zu, .inl (cJ, 12400, .inr (.inl un))), (zx, .inl (cI, 4096, .inl xs)), (zy, .inl (cI, 4096, .inl ys)), (zf, .inl (cI, 4096, .inl fr)), (zt, .inl (cI, 4096, .inl to1))]) [0, 1, 2, 3, 4, 5, 6] rfl
        have hD9 := hD.sub (ws' := [(ma, .inr (6, mo_ th zk zp za zb zx zy sn zf zt zw zm zh x0 y0 dx dy zz (nI ((csq_ xs ys p1 q1 p2 q2).foldl ins_ F).length) zo zu)), (zo, .inl (cJ, 12400, .inr (.inl ov))), (zu, .inl (cJ, 12400, .inr (.inl un))), (zx, .inl (cI, 4096, .inl xs)), (zy, .inl (cI, 4096, .inl ys)), (zf, .inl (cI, 4096, .inl fr)), (zt, .inl (cI, 4096, .inl to1))]) [0, 1, 2, 3, 4, 5, 6] (by decide) rfl
        exact W.vret hx hb hr (fun t ht hW => ⟨⟨(ov, un), rfl, by rw [en]; exact hf, by rw [ht]; exact hP9, va_K.moved hW.alike hK, hD9⟩, hS.F ht⟩) hS.2.2 dX6_cutBySegment_258
      · refine lv_lload hx hb dX6_cutBySegment_235 (lv_at hl 0 rfl) ?_
        refine lv_lconst (v := 0) hx hb dX6_cutBySegment_237 (by decide) ?_
        refine W.lcmp hx hb dX6_cutBySegment_238 ?_
        refine lv_if_le (tgt := 258) hx hb dX6_cutBySegment_239 (by decide) (fun d3 => ?_) (fun d3 => ?_)
        · have en : (csq_ xs ys p1 q1 p2 q2).foldl ins_ F = F := by rw [hc]; unfold csc_; rw [if_neg (fun h => Int64.not_le.mpr h.2.2.1 ((lg_cmp_le _ _).mp d3))]; rfl
          rw [← en] at hP hD
          have hP : va_P g vwCl [(ma, .inr (6, mo_ th zk zp za zb zx zy sn zf zt zw zm zh x0 y0 dx dy zz (nI ((csq_ xs ys p1 q1 p2 q2).foldl ins_ F).length) zo zu)), (zo, .inl (cJ, 12400, .inr (.inl ov))), (zu, .inl (cJ, 12400, .inr (.inl un))), (zx, .inl (cI, 4096, .inl xs)), (zy, .inl (cI, 4096, .inl ys)), (zf, .inl (cI, 4096, .inl fr)), (zt, .inl (cI, 4096, .inl to1))] s.heap := hP
          have hD : va_D A [(ma, .inr (6, mo_ th zk zp za zb zx zy sn zf zt zw zm zh x0 y0 dx dy zz (nI ((csq_ xs ys p1 q1 p2 q2).foldl ins_ F).length) zo zu)), (zo, .inl (cJ, 12400, .inr (.inl ov))), (zu, .inl (cJ, 12400, .inr (.inl un))), (zx, .inl (cI, 4096, .inl xs)), (zy, .inl (cI, 4096, .inl ys)), (zf, .inl (cI, 4096, .inl fr)), (zt, .inl (cI, 4096, .inl to1))] := hD
          have hP9 := hP.sub (ws' := [(ma, .inr (6, mo_ th zk zp za zb zx zy sn zf zt zw zm zh x0 y0 dx dy zz (nI ((csq_ xs ys p1 q1 p2 q2).foldl ins_ F).length) zo zu)), (zo, .inl (cJ, 12400, .inr (.inl ov))), (zu, .inl (cJ, 12400, .inr (.inl un))), (zx, .inl (cI, 4096, .inl xs)), (zy, .inl (cI, 4096, .inl ys)), (zf, .inl (cI, 4096, .inl fr)), (zt, .inl (cI, 4096, .inl to1))]) [0, 1, 2, 3, 4, 5, 6] rfl
          have hD9 := hD.sub (ws' := [(ma, .inr (6, mo_ th zk zp za zb zx zy sn zf zt zw zm zh x0 y0 dx dy zz (nI ((csq_ xs ys p1 q1 p2 q2).foldl ins_ F).length) zo zu)), (zo, .inl (cJ, 12400, .inr (.inl ov))), (zu, .inl (cJ, 12400, .inr (.inl un))), (zx, .inl (cI, 4096, .inl xs)), (zy, .inl (cI, 4096, .inl ys)), (zf, .inl (cI, 4096, .inl fr)), (zt, .inl (cI, 4096, .inl to1))]) [0, 1, 2, 3, 4, 5, 6] (by decide) rfl
          exact W.vret hx hb hr (fun t ht hW => ⟨⟨(ov, un), rfl, by rw [en]; exact hf, by rw [ht]; exact hP9, va_K.moved hW.alike hK, hD9⟩, hS.F ht⟩) hS.2.2 dX6_cutBySegment_258
        · refine lv_lload hx hb dX6_cutBySegment_242 (lv_at hl 0 rfl) ?_
          refine lv_lload hx hb dX6_cutBySegment_244 (lv_at hl 2 rfl) ?_
          refine W.lcmp hx hb dX6_cutBySegment_246 ?_
          refine lv_if_ge (tgt := 258) hx hb dX6_cutBySegment_247 (by decide) (fun d4 => ?_) (fun d4 => ?_)
          · have en : (csq_ xs ys p1 q1 p2 q2).foldl ins_ F = F := by rw [hc]; unfold csc_; rw [if_neg (fun h => Int64.not_le.mpr h.2.2.2 ((lg_cmp_ge _ _).mp d4))]; rfl
            rw [← en] at hP hD
            have hP : va_P g vwCl [(ma, .inr (6, mo_ th zk zp za zb zx zy sn zf zt zw zm zh x0 y0 dx dy zz (nI ((csq_ xs ys p1 q1 p2 q2).foldl ins_ F).length) zo zu)), (zo, .inl (cJ, 12400, .inr (.inl ov))), (zu, .inl (cJ, 12400, .inr (.inl un))), (zx, .inl (cI, 4096, .inl xs)), (zy, .inl (cI, 4096, .inl ys)), (zf, .inl (cI, 4096, .inl fr)), (zt, .inl (cI, 4096, .inl to1))] s.heap := hP
            have hD : va_D A [(ma, .inr (6, mo_ th zk zp za zb zx zy sn zf zt zw zm zh x0 y0 dx dy zz (nI ((csq_ xs ys p1 q1 p2 q2).foldl ins_ F).length) zo zu)), (zo, .inl (cJ, 12400, .inr (.inl ov))), (zu, .inl (cJ, 12400, .inr (.inl un))), (zx, .inl (cI, 4096, .inl xs)), (zy, .inl (cI, 4096, .inl ys)), (zf, .inl (cI, 4096, .inl fr)), (zt, .inl (cI, 4096, .inl to1))] := hD
            have hP9 := hP.sub (ws' := [(ma, .inr (6, mo_ th zk zp za zb zx zy sn zf zt zw zm zh x0 y0 dx dy zz (nI ((csq_ xs ys p1 q1 p2 q2).foldl ins_ F).length) zo zu)), (zo, .inl (cJ, 12400, .inr (.inl ov))), (zu, .inl (cJ, 12400, .inr (.inl un))), (zx, .inl (cI, 4096, .inl xs)), (zy, .inl (cI, 4096, .inl ys)), (zf, .inl (cI, 4096, .inl fr)), (zt, .inl (cI, 4096, .inl to1))]) [0, 1, 2, 3, 4, 5, 6] rfl
            have hD9 := hD.sub (ws' := [(ma, .inr (6, mo_ th zk zp za zb zx zy sn zf zt zw zm zh x0 y0 dx dy zz (nI ((csq_ xs ys p1 q1 p2 q2).foldl ins_ F).length) zo zu)), (zo, .inl (cJ, 12400, .inr (.inl ov))), (zu, .inl (cJ, 12400, .inr (.inl un))), (zx, .inl (cI, 4096, .inl xs)), (zy, .inl (cI, 4096, .inl ys)), (zf, .inl (cI, 4096, .inl fr)), (zt, .inl (cI, 4096, .inl to1))]) [0, 1, 2, 3, 4, 5, 6] (by decide) rfl
            exact W.vret hx hb hr (fun t ht hW => ⟨⟨(ov, un), rfl, by rw [en]; exact hf, by rw [ht]; exact hP9, va_K.moved hW.alike hK, hD9⟩, hS.F ht⟩) hS.2.2 dX6_cutBySegment_258
          · have k1 := Int64.not_le.mp (fun h => d1 ((lg_cmp_le _ _).mpr h))
            have k2 := Int64.not_le.mp (fun h => d2 ((lg_cmp_ge _ _).mpr h))
            have k3 := Int64.not_le.mp (fun h => d3 ((lg_cmp_le _ _).mpr h))
            have k4 := Int64.not_le.mp (fun h => d4 ((lg_cmp_ge _ _).mpr h))
            obtain ⟨x1, x2, x3, x4⟩ := csc_k k1 k2
            have en : (csq_ xs ys p1 q1 p2 q2).foldl ins_ F = ins_ F (lq_ (-(sqO_ xs ys p1 p2 q2)), lq_ (-(sqU_ xs ys p1 q1 p2 q2))) := by rw [hc]; unfold csc_; rw [if_pos ⟨k1, k2, k3, k4⟩]; rfl
            refine lv_aload_n hx hb dX6_cutBySegment_250 rfl (lv_at hl 9 rfl) ?_
            refine lv_lload hx hb dX6_cutBySegment_251 (lv_at hl 1 rfl) ?_
            refine lv_lload hx hb dX6_cutBySegment_253 (lv_at hl 2 rfl) ?_
            refine st2_ (y1 := lN (lq_ (-(sqU_ xs ys p1 q1 p2 q2)))) (y2 := lN (lq_ (-(sqO_ xs ys p1 p2 q2)))) x2.symm x1.symm ?_
            have hPc := hP.sub (ws' := [(ma, .inr (6, mo_ th zk zp za zb zx zy sn zf zt zw zm zh x0 y0 dx dy zz (nI F.length) zo zu)), (zo, .inl (cJ, 12400, .inr (.inl ov))), (zu, .inl (cJ, 12400, .inr (.inl un)))]) [0, 1, 2] rfl
            have hDc := hD.sub (ws' := [(ma, .inr (6, mo_ th zk zp za zb zx zy sn zf zt zw zm zh x0 y0 dx dy zz (nI F.length) zo zu)), (zo, .inl (cJ, 12400, .inr (.inl ov))), (zu, .inl (cJ, 12400, .inr (.inl un)))]) [0, 1, 2] (by decide) rfl
            have hFc := va_free (wc := [(ma, .inr (6, mo_ th zk zp za zb zx zy sn zf zt zw zm zh x0 y0 dx dy zz (nI F.length) zo zu)), (zo, .inl (cJ, 12400, .inr (.inl ov))), (zu, .inl (cJ, 12400, .inr (.inl un)))]) hD hS hA [0, 1, 2] rfl
            refine va_callv (va_runV (As := [.long (lN (lq_ (-(sqO_ xs ys p1 p2 q2)))), .long (lN (lq_ (-(sqU_ xs ys p1 q1 p2 q2))))]) (rest := []) ⟨hx, hb, hml, hown, hts⟩ (kX6_cut l g cI cJ cZ s.heap.size ma th sn x0 y0 dx dy zk zp za zb zx zy zf zt zw zm zh zz zo zu ov un F (lq_ (-(sqO_ xs ys p1 p2 q2))) (lq_ (-(sqU_ xs ys p1 q1 p2 q2))) hf hk1 hln x3 x4) (cwV 2 hts gX6_cutBySegment_X6_cut rfl rfl rfl (by decide +kernel) ⟨Nat.le_of_ble_eq_true rfl, Nat.le_of_ble_eq_true rfl⟩) (pv_ hK hPc hDc (va_recv hK hPc (ci := 6) (q0 := 0) rfl rfl)) rfl rfl hl.1 rfl (lv_room (Nat.le_of_ble_eq_true rfl)) dX6_cutBySegment_255 ⟨Nat.zero_le _, Nat.zero_le _⟩) hS (fun q _ h => hFc q h) hFc (fun u t H1 locs ht hvm hw3 hB hz1 hk1 hS => ?_)
            obtain ⟨ov3, un3⟩ := u
            obtain ⟨hP1, hK1, hD1⟩ := hB
            rw [ht] at hP1
            dsimp only at hw3
            obtain ⟨hP, hD⟩ := va_join (wr := [(zx, .inl (cI, 4096, .inl xs)), (zy, .inl (cI, 4096, .inl ys)), (zf, .inl (cI, 4096, .inl fr)), (zt, .inl (cI, 4096, .inl to1))]) (w1 := [(ma, .inr (6, mo_ th zk zp za zb zx zy sn zf zt zw zm zh x0 y0 dx dy zz (nI (ins_ F ((lq_ (-(sqO_ xs ys p1 p2 q2))), (lq_ (-(sqU_ xs ys p1 q1 p2 q2))))).length) zo zu)), (zo, .inl (cJ, 12400, .inr (.inl ov3))), (zu, .inl (cJ, 12400, .inr (.inl un3)))]) hP hD [0, 1, 2] [3, 4, 5, 6] rfl rfl (by decide) (by decide) hk1 hFc hP1 hD1
            clear hPc hDc hFc hP1 hD1 hK1 hk1 hz1 hvm ht
            generalize H1 = H at hP hS ⊢
            have hP : va_P g vwCl [(zx, .inl (cI, 4096, .inl xs)), (zy, .inl (cI, 4096, .inl ys)), (zf, .inl (cI, 4096, .inl fr)), (zt, .inl (cI, 4096, .inl to1)), (ma, .inr (6, mo_ th zk zp za zb zx zy sn zf zt zw zm zh x0 y0 dx dy zz (nI (ins_ F ((lq_ (-(sqO_ xs ys p1 p2 q2))), (lq_ (-(sqU_ xs ys p1 q1 p2 q2))))).length) zo zu)), (zo, .inl (cJ, 12400, .inr (.inl ov3))), (zu, .inl (cJ, 12400, .inr (.inl un3)))] H := hP
            have hD : va_D A [(zx, .inl (cI, 4096, .inl xs)), (zy, .inl (cI, 4096, .inl ys)), (zf, .inl (cI, 4096, .inl fr)), (zt, .inl (cI, 4096, .inl to1)), (ma, .inr (6, mo_ th zk zp za zb zx zy sn zf zt zw zm zh x0 y0 dx dy zz (nI (ins_ F ((lq_ (-(sqO_ xs ys p1 p2 q2))), (lq_ (-(sqU_ xs ys p1 q1 p2 q2))))).length) zo zu)), (zo, .inl (cJ, 12400, .inr (.inl ov3))), (zu, .inl (cJ, 12400, .inr (.inl un3)))] := hD
            rw [← en] at hP hD hw3
            have hP : va_P g vwCl [(zx, .inl (cI, 4096, .inl xs)), (zy, .inl (cI, 4096, .inl ys)), (zf, .inl (cI, 4096, .inl fr)), (zt, .inl (cI, 4096, .inl to1)), (ma, .inr (6, mo_ th zk zp za zb zx zy sn zf zt zw zm zh x0 y0 dx dy zz (nI ((csq_ xs ys p1 q1 p2 q2).foldl ins_ F).length) zo zu)), (zo, .inl (cJ, 12400, .inr (.inl ov3))), (zu, .inl (cJ, 12400, .inr (.inl un3)))] H := hP
            have hD : va_D A [(zx, .inl (cI, 4096, .inl xs)), (zy, .inl (cI, 4096, .inl ys)), (zf, .inl (cI, 4096, .inl fr)), (zt, .inl (cI, 4096, .inl to1)), (ma, .inr (6, mo_ th zk zp za zb zx zy sn zf zt zw zm zh x0 y0 dx dy zz (nI ((csq_ xs ys p1 q1 p2 q2).foldl ins_ F).length) zo zu)), (zo, .inl (cJ, 12400, .inr (.inl ov3))), (zu, .inl (cJ, 12400, .inr (.inl un3)))] := hD
            have hP9 := hP.sub (ws' := [(ma, .inr (6, mo_ th zk zp za zb zx zy sn zf zt zw zm zh x0 y0 dx dy zz (nI ((csq_ xs ys p1 q1 p2 q2).foldl ins_ F).length) zo zu)), (zo, .inl (cJ, 12400, .inr (.inl ov3))), (zu, .inl (cJ, 12400, .inr (.inl un3))), (zx, .inl (cI, 4096, .inl xs)), (zy, .inl (cI, 4096, .inl ys)), (zf, .inl (cI, 4096, .inl fr)), (zt, .inl (cI, 4096, .inl to1))]) [4, 5, 6, 0, 1, 2, 3] rfl
            have hD9 := hD.sub (ws' := [(ma, .inr (6, mo_ th zk zp za zb zx zy sn zf zt zw zm zh x0 y0 dx dy zz (nI ((csq_ xs ys p1 q1 p2 q2).foldl ins_ F).length) zo zu)), (zo, .inl (cJ, 12400, .inr (.inl ov3))), (zu, .inl (cJ, 12400, .inr (.inl un3))), (zx, .inl (cI, 4096, .inl xs)), (zy, .inl (cI, 4096, .inl ys)), (zf, .inl (cI, 4096, .inl fr)), (zt, .inl (cI, 4096, .inl to1))]) [4, 5, 6, 0, 1, 2, 3] (by decide) rfl
            exact W.vret hx hb hr (fun t ht hW => ⟨⟨(ov3, un3), rfl, hw3, by rw [ht]; exact hP9, va_K.moved hW.alike hK, hD9⟩, hS.F ht⟩) hS.2.2 dX6_cutBySegment_258
end
