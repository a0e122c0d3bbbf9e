section
theorem ikX6_alike_X6 : ∀ w ∈ wsX60, w ∈ wsX6_alike := by decide +kernel
set_option maxHeartbeats 1000000 in
set_option maxRecDepth 100000 in
theorem kX6_alike (l : Launch) (g : va_G) (cI cJ cZ : ClassId) (sz : Nat) (ma : Nat) (th : Int32) (sn : Int32) (x0 : Int64) (y0 : Int64) (dx : Int64) (dy : Int64) (cu : Int32) (zk : Nat) (zp : Nat) (za : Nat) (zb : Nat) (zx : Nat) (zy : Nat) (zf : Nat) (zt : Nat) (zw : Nat) (zm : Nat) (zh : Nat) (zz : Nat) (zo : Nat) (zu : Nat) (xs : Nat → Int32) (ys : Nat → Int32) (p1 : Nat) (q1 : Nat) (h1 : p1 < 4096) (h2 : q1 < 4096) : Met l yX6_alike wsX6_alike ({ frames := 0, cells := 0, slots := 0, locals := 0 }) (pc_ g cI cJ cZ [.ref ma, .int (nI p1), .int (nI q1)] [(ma, .inr (6, mo_ th zk zp za zb zx zy sn zf zt zw zm zh x0 y0 dx dy zz cu zo zu)), (zx, .inl (cI, 4096, .inl xs)), (zy, .inl (cI, 4096, .inl ys))] sz) (va_Qi (fun (r : Int32) (_ : Unit) => r = alk_ xs ys p1 q1) (fun (_ : Unit) t => wd_ g cI cJ cZ (va_A [(ma, .inr (6, mo_ th zk zp za zb zx zy sn zf zt zw zm zh x0 y0 dx dy zz cu zo zu)), (zx, .inl (cI, 4096, .inl xs)), (zy, .inl (cI, 4096, .inl ys))] sz) [(ma, .inr (6, mo_ th zk zp za zb zx zy sn zf zt zw zm zh x0 y0 dx dy zz cu zo zu)), (zx, .inl (cI, 4096, .inl xs)), (zy, .inl (cI, 4096, .inl ys))] t) (va_A [(ma, .inr (6, mo_ th zk zp za zb zx zy sn zf zt zw zm zh x0 y0 dx dy zz cu zo zu)), (zx, .inl (cI, 4096, .inl xs)), (zy, .inl (cI, 4096, .inl ys))] sz)) (0) (0) (va_A [(ma, .inr (6, mo_ th zk zp za zb zx zy sn zf zt zw zm zh x0 y0 dx dy zz cu zo zu)), (zx, .inl (cI, 4096, .inl xs)), (zy, .inl (cI, 4096, .inl ys))] sz) := by
  refine Met.ofW (cc := cX6_alike) (maxL := 3) (ret := (some .boolean)) (by decide) rfl ?_
  intro p e s m args below meth c s₁ B hml hv
  obtain ⟨rfl, hsz, hP, hK, hD0⟩ := hv
  have hx := B.exec
  have hb := B.bytes
  have hr := B.returns
  have hts := atoms_spec (ws := wsX6_alike) B.pre
  have hown : s.vm.findClass RX6 = some m.cls := findClass_of_methodNamed B.named
  have hlocks := B.notSynchronized
  subst hsz
  have hD := hD0.self (sz := s.heap.size)
  generalize hAe : va_A [(ma, .inr (6, mo_ th zk zp za zb zx zy sn zf zt zw zm zh x0 y0 dx dy zz cu zo zu)), (zx, .inl (cI, 4096, .inl xs)), (zy, .inl (cI, 4096, .inl ys))] s.heap.size = A at hD ⊢
  have hA : ∀ q : Nat, s.heap.size ≤ q → A q := fun q h => by rw [← hAe]; exact Or.inr h
  have hS : va_S A s.heap s.heap [] := va_S.rf
  have hP : va_P g vwCl [(ma, .inr (6, mo_ th zk zp za zb zx zy sn zf zt zw zm zh x0 y0 dx dy zz cu zo zu)), (zx, .inl (cI, 4096, .inl xs)), (zy, .inl (cI, 4096, .inl ys))] s.heap := hP
  have hl := lv_entry ([.ref ma, .int (nI p1), .int (nI q1)]) (n := 3) (Nat.le_of_ble_eq_true rfl)
  rw [lg_entry_eq]
  generalize (lg_sl ([.ref ma, .int (nI p1), .int (nI q1)]) ++ List.replicate (3 - (lg_sl ([.ref ma, .int (nI p1), .int (nI q1)])).length) Slot.unset).toArray = ls at hl ⊢
  have hl : lv_has ls 3 [(0, .ref ma), (1, .int (nI p1)), (2, .int (nI q1))] := hl
  have hH0 : s.heap = s.heap := rfl
  have hiX6 := ikX6_alike_X6
  refine lv_aload_n hx hb dX6_alike_0 rfl (lv_at hl 0 rfl) ?_
  refine va_get (D := g) (ci := 6) (v := .ref zx) (C := RX6) (T := TX6) (N := 21) hx hb hts hiX6 hown hK hP 0 rfl rfl 5 (by decide) (hts (.fieldLink RX6 22 "ShapeRelatorModel" "xs" "[I") (List.mem_of_getElem? (i := 1) rfl)) (fun _ h9 => h9) rfl dX6_alike_1 ?_
  refine lv_iload_n hx hb dX6_alike_4 rfl (lv_at hl 1 rfl) ?_
  refine va_iald (D := g) hx hb hK hP 1 0 rfl rfl (vp_in_nI (h1) (by omega)) dX6_alike_5 ?_
  refine tpi_ (y := (xs p1)) (by rw [nI_clamp (by omega)]) ?_
  refine lv_aload_n hx hb dX6_alike_6 rfl (lv_at hl 0 rfl) ?_
  refine va_get (D := g) (ci := 6) (v := .ref zx) (C := RX6) (T := TX6) (N := 21) hx hb hts hiX6 hown hK hP 0 rfl rfl 5 (by decide) (hts (.fieldLink RX6 22 "ShapeRelatorModel" "xs" "[I") (List.mem_of_getElem? (i := 1) rfl)) (fun _ h9 => h9) rfl dX6_alike_7 ?_
  refine lv_iload_n hx hb dX6_alike_10 rfl (lv_at hl 2 rfl) ?_
  refine va_iald (D := g) hx hb hK hP 1 0 rfl rfl (vp_in_nI (h2) (by omega)) dX6_alike_11 ?_
  refine tpi_ (y := (xs q1)) (by rw [nI_clamp (by omega)]) ?_
  refine lv_icmp_ne (tgt := 34) hx hb dX6_alike_12 (by decide) (fun c1 => ?_) (fun c1 => ?_)
  · refine lv_iconst (v := 0) hx hb dX6_alike_34 (by decide) ?_
    have hP9 := hP.sub (ws' := [(ma, .inr (6, mo_ th zk zp za zb zx zy sn zf zt zw zm zh x0 y0 dx dy zz cu zo zu)), (zx, .inl (cI, 4096, .inl xs)), (zy, .inl (cI, 4096, .inl ys))]) [0, 1, 2] rfl
    have hD9 := hD.sub (ws' := [(ma, .inr (6, mo_ th zk zp za zb zx zy sn zf zt zw zm zh x0 y0 dx dy zz cu zo zu)), (zx, .inl (cI, 4096, .inl xs)), (zy, .inl (cI, 4096, .inl ys))]) [0, 1, 2] (by decide) rfl
    exact W.zret (v := 0) (ty := .boolean) hx hb hr (by decide +kernel) (fun t ht hW => ⟨⟨0, (), rfl, by unfold alk_; rw [if_neg (fun h => c1 h.1)], by rw [ht]; exact hP9, va_K.moved hW.alike hK, hD9⟩, hS.F ht⟩) hS.2.2 dX6_alike_35
  · refine lv_aload_n hx hb dX6_alike_15 rfl (lv_at hl 0 rfl) ?_
    refine va_get (D := g) (ci := 6) (v := .ref zy) (C := RX6) (T := TX6) (N := 21) hx hb hts hiX6 hown hK hP 0 rfl rfl 6 (by decide) (hts (.fieldLink RX6 25 "ShapeRelatorModel" "ys" "[I") (List.mem_of_getElem? (i := 2) rfl)) (fun _ h9 => h9) rfl dX6_alike_16 ?_
    refine lv_iload_n hx hb dX6_alike_19 rfl (lv_at hl 1 rfl) ?_
    refine va_iald (D := g) hx hb hK hP 2 0 rfl rfl (vp_in_nI (h1) (by omega)) dX6_alike_20 ?_
    refine tpi_ (y := (ys p1)) (by rw [nI_clamp (by omega)]) ?_
    refine lv_aload_n hx hb dX6_alike_21 rfl (lv_at hl 0 rfl) ?_
    refine va_get (D := g) (ci := 6) (v := .ref zy) (C := RX6) (T := TX6) (N := 21) hx hb hts hiX6 hown hK hP 0 rfl rfl 6 (by decide) (hts (.fieldLink RX6 25 "ShapeRelatorModel" "ys" "[I") (List.mem_of_getElem? (i := 2) rfl)) (fun _ h9 => h9) rfl dX6_alike_22 ?_
    refine lv_iload_n hx hb dX6_alike_25 rfl (lv_at hl 2 rfl) ?_
    refine va_iald (D := g) hx hb hK hP 2 0 rfl rfl (vp_in_nI (h2) (by omega)) dX6_alike_26 ?_
    refine tpi_ (y := (ys q1)) (by rw [nI_clamp (by omega)]) ?_
    refine lv_icmp_ne (tgt := 34) hx hb dX6_alike_27 (by decide) (fun c2 => ?_) (fun c2 => ?_)
    · refine lv_iconst (v := 0) hx hb dX6_alike_34 (by decide) ?_
      have hP9 := hP.sub (ws' := [(ma, .inr (6, mo_ th zk zp za zb zx zy sn zf zt zw zm zh x0 y0 dx dy zz cu zo zu)), (zx, .inl (cI, 4096, .inl xs)), (zy, .inl (cI, 4096, .inl ys))]) [0, 1, 2] rfl
      have hD9 := hD.sub (ws' := [(ma, .inr (6, mo_ th zk zp za zb zx zy sn zf zt zw zm zh x0 y0 dx dy zz cu zo zu)), (zx, .inl (cI, 4096, .inl xs)), (zy, .inl (cI, 4096, .inl ys))]) [0, 1, 2] (by decide) rfl
      exact W.zret (v := 0) (ty := .boolean) hx hb hr (by decide +kernel) (fun t ht hW => ⟨⟨0, (), rfl, by unfold alk_; rw [if_neg (fun h => c2 h.2)], by rw [ht]; exact hP9, va_K.moved hW.alike hK, hD9⟩, hS.F ht⟩) hS.2.2 dX6_alike_35
    · refine lv_iconst (v := 1) hx hb dX6_alike_30 (by decide) ?_
      refine lv_goto (tgt := 35) hx hb dX6_alike_31 (by decide) ?_
      have hP9 := hP.sub (ws' := [(ma, .inr (6, mo_ th zk zp za zb zx zy sn zf zt zw zm zh x0 y0 dx dy zz cu zo zu)), (zx, .inl (cI, 4096, .inl xs)), (zy, .inl (cI, 4096, .inl ys))]) [0, 1, 2] rfl
      have hD9 := hD.sub (ws' := [(ma, .inr (6, mo_ th zk zp za zb zx zy sn zf zt zw zm zh x0 y0 dx dy zz cu zo zu)), (zx, .inl (cI, 4096, .inl xs)), (zy, .inl (cI, 4096, .inl ys))]) [0, 1, 2] (by decide) rfl
      exact W.zret (v := 1) (ty := .boolean) hx hb hr (by decide +kernel) (fun t ht hW => ⟨⟨1, (), rfl, by unfold alk_; rw [if_pos ⟨c1, c2⟩], by rw [ht]; exact hP9, va_K.moved hW.alike hK, hD9⟩, hS.F ht⟩) hS.2.2 dX6_alike_35

theorem ikX6_join_X6 : ∀ w ∈ wsX60, w ∈ wsX6_join := by decide +kernel
set_option maxHeartbeats 1000000 in
set_option maxRecDepth 100000 in
theorem kX6_join (l : Launch) (g : va_G) (cI cJ cZ : ClassId) (sz : Nat) (ma : Nat) (th : Int32) (x0 : Int64) (y0 : Int64) (dx : Int64) (dy : Int64) (cu : Int32) (zk : Nat) (zp : Nat) (za : Nat) (zb : Nat) (zx : Nat) (zy : Nat) (zf : Nat) (zt : Nat) (zw : Nat) (zm : Nat) (zh : Nat) (zz : Nat) (zo : Nat) (zu : Nat) (xs : Nat → Int32) (ys : Nat → Int32) (fr : Nat → Int32) (to1 : Nat → Int32) (wh : Nat → Int32) (ms : List (Nat × Nat × Nat)) (sh : Nat) (p1 : Nat) (q1 : Nat) (h1 : p1 < 4096) (h2 : q1 < 4096) (h3 : ms.length < 4096) (hm3 : ml3_ fr to1 wh ms) : Met l yX6_join wsX6_join ({ frames := 1, cells := 0, slots := 0, locals := 22 }) (pc_ g cI cJ cZ [.ref ma, .int (nI sh), .int (nI p1), .int (nI q1)] [(ma, .inr (6, mo_ th zk zp za zb zx zy (nI ms.length) zf zt zw zm zh x0 y0 dx dy zz cu zo zu)), (zx, .inl (cI, 4096, .inl xs)), (zy, .inl (cI, 4096, .inl ys)), (zf, .inl (cI, 4096, .inl fr)), (zt, .inl (cI, 4096, .inl to1)), (zw, .inl (cI, 4096, .inl wh))] sz) (va_Qv (fun (u : (Nat → Int32) × (Nat → Int32) × (Nat → Int32)) => match u with | (fr2, to2, wh2) => ml3_ fr2 to2 wh2 (jn_ xs ys ms p1 q1 sh)) (fun (u : (Nat → Int32) × (Nat → Int32) × (Nat → Int32)) t => match u with | (fr2, to2, wh2) => wd_ g cI cJ cZ (va_A [(ma, .inr (6, mo_ th zk zp za zb zx zy (nI ms.length) zf zt zw zm zh x0 y0 dx dy zz cu zo zu)), (zx, .inl (cI, 4096, .inl xs)), (zy, .inl (cI, 4096, .inl ys)), (zf, .inl (cI, 4096, .inl fr)), (zt, .inl (cI, 4096, .inl to1)), (zw, .inl (cI, 4096, .inl wh))] sz) [(ma, .inr (6, mo_ th zk zp za zb zx zy (nI (jn_ xs ys ms p1 q1 sh).length) zf zt zw zm zh x0 y0 dx dy zz cu zo zu)), (zx, .inl (cI, 4096, .inl xs)), (zy, .inl (cI, 4096, .inl ys)), (zf, .inl (cI, 4096, .inl fr2)), (zt, .inl (cI, 4096, .inl to2)), (zw, .inl (cI, 4096, .inl wh2))] t) (va_A [(ma, .inr (6, mo_ th zk zp za zb zx zy (nI ms.length) zf zt zw zm zh x0 y0 dx dy zz cu zo zu)), (zx, .inl (cI, 4096, .inl xs)), (zy, .inl (cI, 4096, .inl ys)), (zf, .inl (cI, 4096, .inl fr)), (zt, .inl (cI, 4096, .inl to1)), (zw, .inl (cI, 4096, .inl wh))] sz)) (0) (0) (va_A [(ma, .inr (6, mo_ th zk zp za zb zx zy (nI ms.length) zf zt zw zm zh x0 y0 dx dy zz cu zo zu)), (zx, .inl (cI, 4096, .inl xs)), (zy, .inl (cI, 4096, .inl ys)), (zf, .inl (cI, 4096, .inl fr)), (zt, .inl (cI, 4096, .inl to1)), (zw, .inl (cI, 4096, .inl wh))] sz) := by
  refine Met.ofW (cc := cX6_join) (maxL := 4) (ret := none) (by decide) rfl ?_
  intro p e s m args below meth c s₁ B hml hv
  obtain ⟨rfl, hsz, hP, hK, hD0⟩ := hv
  have hx := B.exec
  have hb := B.bytes
  have hr := B.returns
  have hts := atoms_spec (ws := wsX6_join) B.pre
  have hown : s.vm.findClass RX6 = some m.cls := findClass_of_methodNamed B.named
  have hlocks := B.notSynchronized
  subst hsz
  have hD := hD0.self (sz := s.heap.size)
  generalize hAe : va_A [(ma, .inr (6, mo_ th zk zp za zb zx zy (nI ms.length) zf zt zw zm zh x0 y0 dx dy zz cu zo zu)), (zx, .inl (cI, 4096, .inl xs)), (zy, .inl (cI, 4096, .inl ys)), (zf, .inl (cI, 4096, .inl fr)), (zt, .inl (cI, 4096, .inl to1)), (zw, .inl (cI, 4096, .inl wh))] s.heap.size = A at hD ⊢
  have hA : ∀ q : Nat, s.heap.size ≤ q → A q := fun q h => by rw [← hAe]; exact Or.inr h
  have hS : va_S A s.heap s.heap [] := va_S.rf
  have hP : va_P g vwCl [(ma, .inr (6, mo_ th zk zp za zb zx zy (nI ms.length) zf zt zw zm zh x0 y0 dx dy zz cu zo zu)), (zx, .inl (cI, 4096, .inl xs)), (zy, .inl (cI, 4096, .inl ys)), (zf, .inl (cI, 4096, .inl fr)), (zt, .inl (cI, 4096, .inl to1)), (zw, .inl (cI, 4096, .inl wh))] s.heap := hP
  have hl := lv_entry ([.ref ma, .int (nI sh), .int (nI p1), .int (nI q1)]) (n := 4) (Nat.le_of_ble_eq_true rfl)
  rw [lg_entry_eq]
  generalize (lg_sl ([.ref ma, .int (nI sh), .int (nI p1), .int (nI q1)]) ++ List.replicate (4 - (lg_sl ([.ref ma, .int (nI sh), .int (nI p1), .int (nI q1)])).length) Slot.unset).toArray = ls at hl ⊢
  have hl : lv_has ls 4 [(0, .ref ma), (1, .int (nI sh)), (2, .int (nI p1)), (3, .int (nI q1))] := hl
  have hH0 : s.heap = s.heap := rfl
  have hiX6 := ikX6_join_X6
  refine lv_aload_n hx hb dX6_join_0 rfl (lv_at hl 0 rfl) ?_
  refine lv_iload_n hx hb dX6_join_1 rfl (lv_at hl 2 rfl) ?_
  refine lv_iload_n hx hb dX6_join_2 rfl (lv_at hl 3 rfl) ?_
  have hPc := hP.sub (ws' := [(ma, .inr (6, mo_ th zk zp za zb zx zy (nI ms.length) zf zt zw zm zh x0 y0 dx dy zz cu zo zu)), (zx, .inl (cI, 4096, .inl xs)), (zy, .inl (cI, 4096, .inl ys))]) [0, 1, 2] rfl
  have hDc := hD.sub (ws' := [(ma, .inr (6, mo_ th zk zp za zb zx zy (nI ms.length) zf zt zw zm zh x0 y0 dx dy zz cu zo zu)), (zx, .inl (cI, 4096, .inl xs)), (zy, .inl (cI, 4096, .inl ys))]) [0, 1, 2] (by decide) rfl
  have hFc := va_free (wc := [(ma, .inr (6, mo_ th zk zp za zb zx zy (nI ms.length) zf zt zw zm zh x0 y0 dx dy zz cu zo zu)), (zx, .inl (cI, 4096, .inl xs)), (zy, .inl (cI, 4096, .inl ys))]) hD hS hA [0, 1, 2] rfl
  refine va_calli (va_runV (As := [.int (nI p1), .int (nI q1)]) (rest := []) ⟨hx, hb, hml, hown, hts⟩ (kX6_alike l g cI cJ cZ s.heap.size ma th (nI ms.length) x0 y0 dx dy cu zk zp za zb zx zy zf zt zw zm zh zz zo zu xs ys p1 q1 h1 h2) (cwV 2 hts gX6_join_X6_alike rfl rfl rfl (by decide +kernel) ⟨Nat.le_of_ble_eq_true rfl, Nat.le_of_ble_eq_true rfl⟩) (pv_ hK hPc hDc (va_recv hK hPc (ci := 6) (q0 := 0) rfl rfl)) rfl rfl hl.1 rfl (lv_room (Nat.le_of_ble_eq_true rfl)) dX6_join_3 ⟨Nat.zero_le _, Nat.zero_le _⟩) hS (fun q _ h => hFc q h) hFc (fun r1 u t H1 locs ht hvm hw1 hB hz1 hk1 hS => ?_)
  obtain ⟨hP1, hK1, hD1⟩ := hB
  rw [ht] at hP1
  obtain ⟨hP, hD⟩ := va_join (wr := [(zf, .inl (cI, 4096, .inl fr)), (zt, .inl (cI, 4096, .inl to1)), (zw, .inl (cI, 4096, .inl wh))]) (w1 := [(ma, .inr (6, mo_ th zk zp za zb zx zy (nI ms.length) zf zt zw zm zh x0 y0 dx dy zz cu zo zu)), (zx, .inl (cI, 4096, .inl xs)), (zy, .inl (cI, 4096, .inl ys))]) hP hD [0, 1, 2] [3, 4, 5] rfl rfl (by decide) (by decide) hk1 hFc hP1 hD1
  clear hPc hDc hFc hP1 hD1 hK1 hk1 hz1 hvm ht
  generalize H1 = H at hP hS ⊢
  have hP : va_P g vwCl [(zf, .inl (cI, 4096, .inl fr)), (zt, .inl (cI, 4096, .inl to1)), (zw, .inl (cI, 4096, .inl wh)), (ma, .inr (6, mo_ th zk zp za zb zx zy (nI ms.length) zf zt zw zm zh x0 y0 dx dy zz cu zo zu)), (zx, .inl (cI, 4096, .inl xs)), (zy, .inl (cI, 4096, .inl ys))] H := hP
  have hD : va_D A [(zf, .inl (cI, 4096, .inl fr)), (zt, .inl (cI, 4096, .inl to1)), (zw, .inl (cI, 4096, .inl wh)), (ma, .inr (6, mo_ th zk zp za zb zx zy (nI ms.length) zf zt zw zm zh x0 y0 dx dy zz cu zo zu)), (zx, .inl (cI, 4096, .inl xs)), (zy, .inl (cI, 4096, .inl ys))] := hD
  refine lv_if_eq (tgt := 10) hx hb dX6_join_6 (by decide) (fun c1 => ?_) (fun c1 => ?_)
  · have en : jn_ xs ys ms p1 q1 sh = ms ++ [(p1, q1, sh)] := by unfold jn_; rw [if_neg (fun h => absurd c1 (by rw [hw1]; unfold alk_; rw [if_pos h]; decide))]
    refine lv_aload_n hx hb dX6_join_10 rfl (lv_at hl 0 rfl) ?_
    refine va_get (D := g) (ci := 6) (v := .ref zf) (C := RX6) (T := TX6) (N := 21) hx hb hts hiX6 hown hK hP 3 rfl rfl 8 (by decide) (hts (.fieldLink RX6 28 "ShapeRelatorModel" "from" "[I") (List.mem_of_getElem? (i := 1) rfl)) (fun _ h9 => h9) rfl dX6_join_11 ?_
    refine lv_aload_n hx hb dX6_join_14 rfl (lv_at hl 0 rfl) ?_
    refine va_get (D := g) (ci := 6) (v := .int (nI ms.length)) (C := RX6) (T := TX6) (N := 21) hx hb hts hiX6 hown hK hP 3 rfl rfl 7 (by decide) (hts (.fieldLink RX6 79 "ShapeRelatorModel" "segments" "I") (List.mem_of_getElem? (i := 2) rfl)) (fun _ h9 => h9) rfl dX6_join_15 ?_
    refine lv_iload_n hx hb dX6_join_18 rfl (lv_at hl 2 rfl) ?_
    refine va_iast (D := g) hx hb hK hP hD hS 0 0 rfl rfl (vp_in_nI h3 (by decide)) dX6_join_19 (fun H locs hP hD hS => ?_)
    rw [nI_clamp (show ms.length < 2 ^ 31 by omega)] at hP hD
    have hP : va_P g vwCl [(zf, .inl (cI, 4096, .inl (upd fr ms.length (nI p1)))), (zt, .inl (cI, 4096, .inl to1)), (zw, .inl (cI, 4096, .inl wh)), (ma, .inr (6, mo_ th zk zp za zb zx zy (nI ms.length) zf zt zw zm zh x0 y0 dx dy zz cu zo zu)), (zx, .inl (cI, 4096, .inl xs)), (zy, .inl (cI, 4096, .inl ys))] H := hP
    have hD : va_D A [(zf, .inl (cI, 4096, .inl (upd fr ms.length (nI p1)))), (zt, .inl (cI, 4096, .inl to1)), (zw, .inl (cI, 4096, .inl wh)), (ma, .inr (6, mo_ th zk zp za zb zx zy (nI ms.length) zf zt zw zm zh x0 y0 dx dy zz cu zo zu)), (zx, .inl (cI, 4096, .inl xs)), (zy, .inl (cI, 4096, .inl ys))] := hD
    refine lv_aload_n hx hb dX6_join_20 rfl (lv_at hl 0 rfl) ?_
    refine va_get (D := g) (ci := 6) (v := .ref zt) (C := RX6) (T := TX6) (N := 21) hx hb hts hiX6 hown hK hP 3 rfl rfl 9 (by decide) (hts (.fieldLink RX6 31 "ShapeRelatorModel" "to" "[I") (List.mem_of_getElem? (i := 3) rfl)) (fun _ h9 => h9) rfl dX6_join_21 ?_
    refine lv_aload_n hx hb dX6_join_24 rfl (lv_at hl 0 rfl) ?_
    refine va_get (D := g) (ci := 6) (v := .int (nI ms.length)) (C := RX6) (T := TX6) (N := 21) hx hb hts hiX6 hown hK hP 3 rfl rfl 7 (by decide) (hts (.fieldLink RX6 79 "ShapeRelatorModel" "segments" "I") (List.mem_of_getElem? (i := 2) rfl)) (fun _ h9 => h9) rfl dX6_join_25 ?_
    refine lv_iload_n hx hb dX6_join_28 rfl (lv_at hl 3 rfl) ?_
    refine va_iast (D := g) hx hb hK hP hD hS 1 0 rfl rfl (vp_in_nI h3 (by decide)) dX6_join_29 (fun H locs hP hD hS => ?_)
    rw [nI_clamp (show ms.length < 2 ^ 31 by omega)] at hP hD
    have hP : va_P g vwCl [(zf, .inl (cI, 4096, .inl (upd fr ms.length (nI p1)))), (zt, .inl (cI, 4096, .inl (upd to1 ms.length (nI q1)))), (zw, .inl (cI, 4096, .inl wh)), (ma, .inr (6, mo_ th zk zp za zb zx zy (nI ms.length) zf zt zw zm zh x0 y0 dx dy zz cu zo zu)), (zx, .inl (cI, 4096, .inl xs)), (zy, .inl (cI, 4096, .inl ys))] H := hP
    have hD : va_D A [(zf, .inl (cI, 4096, .inl (upd fr ms.length (nI p1)))), (zt, .inl (cI, 4096, .inl (upd to1 ms.length (nI q1)))), (zw, .inl (cI, 4096, .inl wh)), (ma, .inr (6, mo_ th zk zp za zb zx zy (nI ms.length) zf zt zw zm zh x0 y0 dx dy zz cu zo zu)), (zx, .inl (cI, 4096, .inl xs)), (zy, .inl (cI, 4096, .inl ys))] := hD
    refine lv_aload_n hx hb dX6_join_30 rfl (lv_at hl 0 rfl) ?_
    refine va_get (D := g) (ci := 6) (v := .ref zw) (C := RX6) (T := TX6) (N := 21) hx hb hts hiX6 hown hK hP 3 rfl rfl 10 (by decide) (hts (.fieldLink RX6 34 "ShapeRelatorModel" "whose" "[I") (List.mem_of_getElem? (i := 4) rfl)) (fun _ h9 => h9) rfl dX6_join_31 ?_
    refine lv_aload_n hx hb dX6_join_34 rfl (lv_at hl 0 rfl) ?_
    refine va_get (D := g) (ci := 6) (v := .int (nI ms.length)) (C := RX6) (T := TX6) (N := 21) hx hb hts hiX6 hown hK hP 3 rfl rfl 7 (by decide) (hts (.fieldLink RX6 79 "ShapeRelatorModel" "segments" "I") (List.mem_of_getElem? (i := 2) rfl)) (fun _ h9 => h9) rfl dX6_join_35 ?_
    refine lv_iload_n hx hb dX6_join_38 rfl (lv_at hl 1 rfl) ?_
    refine va_iast (D := g) hx hb hK hP hD hS 2 0 rfl rfl (vp_in_nI h3 (by decide)) dX6_join_39 (fun H locs hP hD hS => ?_)
    rw [nI_clamp (show ms.length < 2 ^ 31 by omega)] at hP hD
    have hP : va_P g vwCl [(zf, .inl (cI, 4096, .inl (upd fr ms.length (nI p1)))), (zt, .inl (cI, 4096, .inl (upd to1 ms.length (nI q1)))), (zw, .inl (cI, 4096, .inl (upd wh ms.length (nI sh)))), (ma, .inr (6, mo_ th zk zp za zb zx zy (nI ms.length) zf zt zw zm zh x0 y0 dx dy zz cu zo zu)), (zx, .inl (cI, 4096, .inl xs)), (zy, .inl (cI, 4096, .inl ys))] H := hP
    have hD : va_D A [(zf, .inl (cI, 4096, .inl (upd fr ms.length (nI p1)))), (zt, .inl (cI, 4096, .inl (upd to1 ms.length (nI q1)))), (zw, .inl (cI, 4096, .inl (upd wh ms.length (nI sh)))), (ma, .inr (6, mo_ th zk zp za zb zx zy (nI ms.length) zf zt zw zm zh x0 y0 dx dy zz cu zo zu)), (zx, .inl (cI, 4096, .inl xs)), (zy, .inl (cI, 4096, .inl ys))] := hD
    refine lv_aload_n hx hb dX6_join_40 rfl (lv_at hl 0 rfl) ?_
    refine lv_dup hx hb dX6_join_41 rfl ?_
    refine va_get (D := g) (ci := 6) (v := .int (nI ms.length)) (C := RX6) (T := TX6) (N := 21) hx hb hts hiX6 hown hK hP 3 rfl rfl 7 (by decide) (hts (.fieldLink RX6 79 "ShapeRelatorModel" "segments" "I") (List.mem_of_getElem? (i := 2) rfl)) (fun _ h9 => h9) rfl dX6_join_42 ?_
    refine lv_iconst (v := 1) hx hb dX6_join_45 (by decide) ?_
    refine lv_iadd hx hb dX6_join_46 ?_
    refine tpi_ (y := (nI (jn_ xs ys ms p1 q1 sh).length)) (by rw [en]; exact al_1) ?_
    refine va_put (D := g) (ci := 6) (v := .int (nI (jn_ xs ys ms p1 q1 sh).length)) (ty := .int) (C := RX6) (T := TX6) (N := 21) hx hb hts hiX6 tyX6 tyX6_ok nmX6 hown hK hP hD hS 3 rfl rfl 7 (by decide) (hts (.fieldLink RX6 79 "ShapeRelatorModel" "segments" "I") (List.mem_of_getElem? (i := 2) rfl)) (fun _ h9 => h9) rfl (by decide +kernel) rfl rfl (Nat.le_of_ble_eq_true rfl) dX6_join_47 (fun H locs hP hD hS => ?_)
    have hP : va_P g vwCl [(zf, .inl (cI, 4096, .inl (upd fr ms.length (nI p1)))), (zt, .inl (cI, 4096, .inl (upd to1 ms.length (nI q1)))), (zw, .inl (cI, 4096, .inl (upd wh ms.length (nI sh)))), (ma, .inr (6, mo_ th zk zp za zb zx zy (nI (jn_ xs ys ms p1 q1 sh).length) zf zt zw zm zh x0 y0 dx dy zz cu zo zu)), (zx, .inl (cI, 4096, .inl xs)), (zy, .inl (cI, 4096, .inl ys))] H := hP
    have hD : va_D A [(zf, .inl (cI, 4096, .inl (upd fr ms.length (nI p1)))), (zt, .inl (cI, 4096, .inl (upd to1 ms.length (nI q1)))), (zw, .inl (cI, 4096, .inl (upd wh ms.length (nI sh)))), (ma, .inr (6, mo_ th zk zp za zb zx zy (nI (jn_ xs ys ms p1 q1 sh).length) zf zt zw zm zh x0 y0 dx dy zz cu zo zu)), (zx, .inl (cI, 4096, .inl xs)), (zy, .inl (cI, 4096, .inl ys))] := hD
    have hP9 := hP.sub (ws' := [(ma, .inr (6, mo_ th zk zp za zb zx zy (nI (jn_ xs ys ms p1 q1 sh).length) zf zt zw zm zh x0 y0 dx dy zz cu zo zu)), (zx, .inl (cI, 4096, .inl xs)), (zy, .inl (cI, 4096, .inl ys)), (zf, .inl (cI, 4096, .inl (upd fr ms.length (nI p1)))), (zt, .inl (cI, 4096, .inl (upd to1 ms.length (nI q1)))), (zw, .inl (cI, 4096, .inl (upd wh ms.length (nI sh))))]) [3, 4, 5, 0, 1, 2] rfl
    have hD9 := hD.sub (ws' := [(ma, .inr (6, mo_ th zk zp za zb zx zy (nI (jn_ xs ys ms p1 q1 sh).length) zf zt zw zm zh x0 y0 dx dy zz cu zo zu)), (zx, .inl (cI, 4096, .inl xs)), (zy, .inl (cI, 4096, .inl ys)), (zf, .inl (cI, 4096, .inl (upd fr ms.length (nI p1)))), (zt, .inl (cI, 4096, .inl (upd to1 ms.length (nI q1)))), (zw, .inl (cI, 4096, .inl (upd wh ms.length (nI sh))))]) [3, 4, 5, 0, 1, 2] (by decide) rfl
    exact W.vret hx hb hr (fun t ht hW => ⟨⟨(upd fr ms.length (nI p1), upd to1 ms.length (nI q1), upd wh ms.length (nI sh)), rfl, by rw [en]; exact m3_p hm3, by rw [ht]; exact hP9, va_K.moved hW.alike hK, hD9⟩, hS.F ht⟩) hS.2.2 dX6_join_50
  · have en : jn_ xs ys ms p1 q1 sh = ms := by unfold jn_; rw [if_pos (by rcases (inferInstance : Decidable (xs p1 = xs q1 ∧ ys p1 = ys q1)) with q | q; (· exact absurd (by rw [hw1]; unfold alk_; rw [if_neg q]) c1); exact q)]
    rw [← en] at hP hD hm3
    have hP : va_P g vwCl [(zf, .inl (cI, 4096, .inl fr)), (zt, .inl (cI, 4096, .inl to1)), (zw, .inl (cI, 4096, .inl wh)), (ma, .inr (6, mo_ th zk zp za zb zx zy (nI (jn_ xs ys ms p1 q1 sh).length) zf zt zw zm zh x0 y0 dx dy zz cu zo zu)), (zx, .inl (cI, 4096, .inl xs)), (zy, .inl (cI, 4096, .inl ys))] H := hP
    have hD : va_D A [(zf, .inl (cI, 4096, .inl fr)), (zt, .inl (cI, 4096, .inl to1)), (zw, .inl (cI, 4096, .inl wh)), (ma, .inr (6, mo_ th zk zp za zb zx zy (nI (jn_ xs ys ms p1 q1 sh).length) zf zt zw zm zh x0 y0 dx dy zz cu zo zu)), (zx, .inl (cI, 4096, .inl xs)), (zy, .inl (cI, 4096, .inl ys))] := hD
    have hP9 := hP.sub (ws' := [(ma, .inr (6, mo_ th zk zp za zb zx zy (nI (jn_ xs ys ms p1 q1 sh).length) zf zt zw zm zh x0 y0 dx dy zz cu zo zu)), (zx, .inl (cI, 4096, .inl xs)), (zy, .inl (cI, 4096, .inl ys)), (zf, .inl (cI, 4096, .inl fr)), (zt, .inl (cI, 4096, .inl to1)), (zw, .inl (cI, 4096, .inl wh))]) [3, 4, 5, 0, 1, 2] rfl
    have hD9 := hD.sub (ws' := [(ma, .inr (6, mo_ th zk zp za zb zx zy (nI (jn_ xs ys ms p1 q1 sh).length) zf zt zw zm zh x0 y0 dx dy zz cu zo zu)), (zx, .inl (cI, 4096, .inl xs)), (zy, .inl (cI, 4096, .inl ys)), (zf, .inl (cI, 4096, .inl fr)), (zt, .inl (cI, 4096, .inl to1)), (zw, .inl (cI, 4096, .inl wh))]) [3, 4, 5, 0, 1, 2] (by decide) rfl
    exact W.vret hx hb hr (fun t ht hW => ⟨⟨(fr, to1, wh), rfl, hm3, by rw [ht]; exact hP9, va_K.moved hW.alike hK, hD9⟩, hS.F ht⟩) hS.2.2 dX6_join_9

theorem ikX6_gather_X6 : ∀ w ∈ wsX60, w ∈ wsX6_gather := by decide +kernel
set_option maxHeartbeats 1000000 in
set_option maxRecDepth 100000 in
theorem kX6_gather (l : Launch) (g : va_G) (cI cJ cZ : ClassId) (sz : Nat) (ma : Nat) (th : Int32) (sn : Int32) (x0 : Int64) (y0 : Int64) (dx : Int64) (dy : Int64) (cu : Int32) (zk : Nat) (zp : Nat) (za : Nat) (zb : Nat) (zx : Nat) (zy : Nat) (zf : Nat) (zt : Nat) (zw : Nat) (zm : Nat) (zh : Nat) (zz : Nat) (zo : Nat) (zu : Nat) (kn : Nat → Int32) (pa : Nat → Int32) (bg : Nat → Int32) (pt : Nat → Int32) (xs : Nat → Int32) (ys : Nat → Int32) (fr : Nat → Int32) (to1 : Nat → Int32) (wh : Nat → Int32) (PT : Nat → Nat) (PA : Nat → Nat) (SN : Nat → Nat → Nat) (hst : mst_ pt pa bg PT PA SN) (hmo : ∀ s, s < 2 → mon_ (SN s) (PA s) (PT s)) : Met l yX6_gather wsX6_gather ({ frames := 2, cells := 0, slots := 0, locals := 45 }) (pc_ g cI cJ cZ [.ref ma] [(ma, .inr (6, mo_ th zk zp za zb zx zy sn zf zt zw zm zh x0 y0 dx dy zz cu zo zu)), (zk, .inl (cI, 2, .inl kn)), (za, .inl (cI, 2, .inl pa)), (zb, .inl (cI, 2050, .inl bg)), (zp, .inl (cI, 2, .inl pt)), (zx, .inl (cI, 4096, .inl xs)), (zy, .inl (cI, 4096, .inl ys)), (zf, .inl (cI, 4096, .inl fr)), (zt, .inl (cI, 4096, .inl to1)), (zw, .inl (cI, 4096, .inl wh))] sz) (va_Qv (fun (u : (Nat → Int32) × (Nat → Int32) × (Nat → Int32)) => match u with | (fr2, to2, wh2) => ml3_ fr2 to2 wh2 (gat_ kn xs ys SN PA PT)) (fun (u : (Nat → Int32) × (Nat → Int32) × (Nat → Int32)) t => match u with | (fr2, to2, wh2) => wd_ g cI cJ cZ (va_A [(ma, .inr (6, mo_ th zk zp za zb zx zy sn zf zt zw zm zh x0 y0 dx dy zz cu zo zu)), (zk, .inl (cI, 2, .inl kn)), (za, .inl (cI, 2, .inl pa)), (zb, .inl (cI, 2050, .inl bg)), (zp, .inl (cI, 2, .inl pt)), (zx, .inl (cI, 4096, .inl xs)), (zy, .inl (cI, 4096, .inl ys)), (zf, .inl (cI, 4096, .inl fr)), (zt, .inl (cI, 4096, .inl to1)), (zw, .inl (cI, 4096, .inl wh))] sz) [(ma, .inr (6, mo_ th zk zp za zb zx zy (nI (gat_ kn xs ys SN PA PT).length) zf zt zw zm zh x0 y0 dx dy zz cu zo zu)), (zk, .inl (cI, 2, .inl kn)), (za, .inl (cI, 2, .inl pa)), (zb, .inl (cI, 2050, .inl bg)), (zp, .inl (cI, 2, .inl pt)), (zx, .inl (cI, 4096, .inl xs)), (zy, .inl (cI, 4096, .inl ys)), (zf, .inl (cI, 4096, .inl fr2)), (zt, .inl (cI, 4096, .inl to2)), (zw, .inl (cI, 4096, .inl wh2))] t) (va_A [(ma, .inr (6, mo_ th zk zp za zb zx zy sn zf zt zw zm zh x0 y0 dx dy zz cu zo zu)), (zk, .inl (cI, 2, .inl kn)), (za, .inl (cI, 2, .inl pa)), (zb, .inl (cI, 2050, .inl bg)), (zp, .inl (cI, 2, .inl pt)), (zx, .inl (cI, 4096, .inl xs)), (zy, .inl (cI, 4096, .inl ys)), (zf, .inl (cI, 4096, .inl fr)), (zt, .inl (cI, 4096, .inl to1)), (zw, .inl (cI, 4096, .inl wh))] sz)) (0) (0) (va_A [(ma, .inr (6, mo_ th zk zp za zb zx zy sn zf zt zw zm zh x0 y0 dx dy zz cu zo zu)), (zk, .inl (cI, 2, .inl kn)), (za, .inl (cI, 2, .inl pa)), (zb, .inl (cI, 2050, .inl bg)), (zp, .inl (cI, 2, .inl pt)), (zx, .inl (cI, 4096, .inl xs)), (zy, .inl (cI, 4096, .inl ys)), (zf, .inl (cI, 4096, .inl fr)), (zt, .inl (cI, 4096, .inl to1)), (zw, .inl (cI, 4096, .inl wh))] sz) := by
  refine Met.ofW (cc := cX6_gather) (maxL := 6) (ret := none) (by decide) rfl ?_
  intro p e s m args below meth c s₁ B hml hv
  obtain ⟨rfl, hsz, hP, hK, hD0⟩ := hv
  have hx := B.exec
  have hb := B.bytes
  have hr := B.returns
  have hts := atoms_spec (ws := wsX6_gather) B.pre
  have hown : s.vm.findClass RX6 = some m.cls := findClass_of_methodNamed B.named
  have hlocks := B.notSynchronized
  subst hsz
  have hD := hD0.self (sz := s.heap.size)
  generalize hAe : va_A [(ma, .inr (6, mo_ th zk zp za zb zx zy sn zf zt zw zm zh x0 y0 dx dy zz cu zo zu)), (zk, .inl (cI, 2, .inl kn)), (za, .inl (cI, 2, .inl pa)), (zb, .inl (cI, 2050, .inl bg)), (zp, .inl (cI, 2, .inl pt)), (zx, .inl (cI, 4096, .inl xs)), (zy, .inl (cI, 4096, .inl ys)), (zf, .inl (cI, 4096, .inl fr)), (zt, .inl (cI, 4096, .inl to1)), (zw, .inl (cI, 4096, .inl wh))] s.heap.size = A at hD ⊢
  have hA : ∀ q : Nat, s.heap.size ≤ q → A q := fun q h => by rw [← hAe]; exact Or.inr h
  have hS : va_S A s.heap s.heap [] := va_S.rf
  have hP : va_P g vwCl [(ma, .inr (6, mo_ th zk zp za zb zx zy sn zf zt zw zm zh x0 y0 dx dy zz cu zo zu)), (zk, .inl (cI, 2, .inl kn)), (za, .inl (cI, 2, .inl pa)), (zb, .inl (cI, 2050, .inl bg)), (zp, .inl (cI, 2, .inl pt)), (zx, .inl (cI, 4096, .inl xs)), (zy, .inl (cI, 4096, .inl ys)), (zf, .inl (cI, 4096, .inl fr)), (zt, .inl (cI, 4096, .inl to1)), (zw, .inl (cI, 4096, .inl wh))] s.heap := hP
  have hl := lv_entry ([.ref ma]) (n := 6) (Nat.le_of_ble_eq_true rfl)
  rw [lg_entry_eq]
  generalize (lg_sl ([.ref ma]) ++ List.replicate (6 - (lg_sl ([.ref ma])).length) Slot.unset).toArray = ls at hl ⊢
  have hl : lv_has ls 6 [(0, .ref ma)] := hl
  have hH0 : s.heap = s.heap := rfl
  have hiX6 := ikX6_gather_X6
  refine lv_aload_n hx hb dX6_gather_0 rfl (lv_at hl 0 rfl) ?_
  refine lv_iconst (v := 0) hx hb dX6_gather_1 (by decide) ?_
  refine va_put (D := g) (ci := 6) (v := .int 0) (ty := .int) (C := RX6) (T := TX6) (N := 21) hx hb hts hiX6 tyX6 tyX6_ok nmX6 hown hK hP hD hS 0 rfl rfl 7 (by decide) (hts (.fieldLink RX6 79 "ShapeRelatorModel" "segments" "I") (List.mem_of_getElem? (i := 1) rfl)) (fun _ h9 => h9) rfl (by decide +kernel) rfl rfl (Nat.le_of_ble_eq_true rfl) dX6_gather_2 (fun H locs hP hD hS => ?_)
  have hP : va_P g vwCl [(ma, .inr (6, mo_ th zk zp za zb zx zy 0 zf zt zw zm zh x0 y0 dx dy zz cu zo zu)), (zk, .inl (cI, 2, .inl kn)), (za, .inl (cI, 2, .inl pa)), (zb, .inl (cI, 2050, .inl bg)), (zp, .inl (cI, 2, .inl pt)), (zx, .inl (cI, 4096, .inl xs)), (zy, .inl (cI, 4096, .inl ys)), (zf, .inl (cI, 4096, .inl fr)), (zt, .inl (cI, 4096, .inl to1)), (zw, .inl (cI, 4096, .inl wh))] H := hP
  have hD : va_D A [(ma, .inr (6, mo_ th zk zp za zb zx zy 0 zf zt zw zm zh x0 y0 dx dy zz cu zo zu)), (zk, .inl (cI, 2, .inl kn)), (za, .inl (cI, 2, .inl pa)), (zb, .inl (cI, 2050, .inl bg)), (zp, .inl (cI, 2, .inl pt)), (zx, .inl (cI, 4096, .inl xs)), (zy, .inl (cI, 4096, .inl ys)), (zf, .inl (cI, 4096, .inl fr)), (zt, .inl (cI, 4096, .inl to1)), (zw, .inl (cI, 4096, .inl wh))] := hD
  refine lv_iconst (v := 0) hx hb dX6_gather_5 (by decide) ?_
  refine lv_istore_n (lv' := [(1, .int 0), (0, .ref ma)]) hx hb dX6_gather_6 rfl hl (by decide) rfl (fun ls hl => ?_)
  have hP : va_P g vwCl [(ma, .inr (6, mo_ th zk zp za zb zx zy (nI (sgl_ kn xs ys SN PA PT 0).length) zf zt zw zm zh x0 y0 dx dy zz cu zo zu)), (zk, .inl (cI, 2, .inl kn)), (za, .inl (cI, 2, .inl pa)), (zb, .inl (cI, 2050, .inl bg)), (zp, .inl (cI, 2, .inl pt)), (zx, .inl (cI, 4096, .inl xs)), (zy, .inl (cI, 4096, .inl ys)), (zf, .inl (cI, 4096, .inl fr)), (zt, .inl (cI, 4096, .inl to1)), (zw, .inl (cI, 4096, .inl wh))] H := hP
  have hD : va_D A [(ma, .inr (6, mo_ th zk zp za zb zx zy (nI (sgl_ kn xs ys SN PA PT 0).length) zf zt zw zm zh x0 y0 dx dy zz cu zo zu)), (zk, .inl (cI, 2, .inl kn)), (za, .inl (cI, 2, .inl pa)), (zb, .inl (cI, 2050, .inl bg)), (zp, .inl (cI, 2, .inl pt)), (zx, .inl (cI, 4096, .inl xs)), (zy, .inl (cI, 4096, .inl ys)), (zf, .inl (cI, 4096, .inl fr)), (zt, .inl (cI, 4096, .inl to1)), (zw, .inl (cI, 4096, .inl wh))] := hD
  refine lpW (σ := Nat × (Nat → Int32) × (Nat → Int32) × (Nat → Int32)) (fun (sh, f0, t0, w0) => 2 - sh) (fun (sh, f0, t0, w0) => 0) (fun (sh, f0, t0, w0) => 0) (fun (sh, f0, t0, w0) H locs ls => (sh ≤ 2 ∧ ml3_ f0 t0 w0 (sgl_ kn xs ys SN PA PT sh)) ∧ va_P g vwCl [(ma, .inr (6, mo_ th zk zp za zb zx zy (nI (sgl_ kn xs ys SN PA PT sh).length) zf zt zw zm zh x0 y0 dx dy zz cu zo zu)), (zk, .inl (cI, 2, .inl kn)), (za, .inl (cI, 2, .inl pa)), (zb, .inl (cI, 2050, .inl bg)), (zp, .inl (cI, 2, .inl pt)), (zx, .inl (cI, 4096, .inl xs)), (zy, .inl (cI, 4096, .inl ys)), (zf, .inl (cI, 4096, .inl f0)), (zt, .inl (cI, 4096, .inl t0)), (zw, .inl (cI, 4096, .inl w0))] H ∧ va_D A [(ma, .inr (6, mo_ th zk zp za zb zx zy (nI (sgl_ kn xs ys SN PA PT sh).length) zf zt zw zm zh x0 y0 dx dy zz cu zo zu)), (zk, .inl (cI, 2, .inl kn)), (za, .inl (cI, 2, .inl pa)), (zb, .inl (cI, 2050, .inl bg)), (zp, .inl (cI, 2, .inl pt)), (zx, .inl (cI, 4096, .inl xs)), (zy, .inl (cI, 4096, .inl ys)), (zf, .inl (cI, 4096, .inl f0)), (zt, .inl (cI, 4096, .inl t0)), (zw, .inl (cI, 4096, .inl w0))] ∧ va_S A s.heap H locs ∧ lv_has ls 6 [(1, .int (nI sh)), (0, .ref ma)]) (fun x ih H locs ls hI => ?_) (0, fr, to1, wh) rfl rfl ⟨⟨Nat.zero_le _, fun i h => absurd h (Nat.not_lt_zero _)⟩, hP, hD, hS, (lv_sub hl [0, 1] rfl)⟩
  obtain ⟨sh, f0, t0, w0⟩ := x
  obtain ⟨hi, hP, hD, hS, hl⟩ := hI
  have hP : va_P g vwCl [(ma, .inr (6, mo_ th zk zp za zb zx zy (nI (sgl_ kn xs ys SN PA PT sh).length) zf zt zw zm zh x0 y0 dx dy zz cu zo zu)), (zk, .inl (cI, 2, .inl kn)), (za, .inl (cI, 2, .inl pa)), (zb, .inl (cI, 2050, .inl bg)), (zp, .inl (cI, 2, .inl pt)), (zx, .inl (cI, 4096, .inl xs)), (zy, .inl (cI, 4096, .inl ys)), (zf, .inl (cI, 4096, .inl f0)), (zt, .inl (cI, 4096, .inl t0)), (zw, .inl (cI, 4096, .inl w0))] H := hP
  have hD : va_D A [(ma, .inr (6, mo_ th zk zp za zb zx zy (nI (sgl_ kn xs ys SN PA PT sh).length) zf zt zw zm zh x0 y0 dx dy zz cu zo zu)), (zk, .inl (cI, 2, .inl kn)), (za, .inl (cI, 2, .inl pa)), (zb, .inl (cI, 2050, .inl bg)), (zp, .inl (cI, 2, .inl pt)), (zx, .inl (cI, 4096, .inl xs)), (zy, .inl (cI, 4096, .inl ys)), (zf, .inl (cI, 4096, .inl f0)), (zt, .inl (cI, 4096, .inl t0)), (zw, .inl (cI, 4096, .inl w0))] := hD
  have hl : lv_has ls 6 [(1, .int (nI sh)), (0, .ref ma)] := hl
  show W p l e _ s m _ below meth c H locs (0) (0) _ (F0 m 7 ls [])
  obtain ⟨i1, i2⟩ := hi
  refine lv_iload_n hx hb dX6_gather_7 rfl (lv_at hl 0 rfl) ?_
  refine lv_iconst (v := 2) hx hb dX6_gather_8 (by decide) ?_
  refine lv_icmp_ge (tgt := 116) hx hb dX6_gather_9 (by decide) (fun c1 => ?_) (fun c1 => ?_)
  · have e1 : sh = 2 := by have := i_ge (b := 2) c1 (by omega) (by omega); omega
    subst e1
    have eg : sgl_ kn xs ys SN PA PT 2 = gat_ kn xs ys SN PA PT := rfl
    rw [eg] at hP hD i2
    have hP : va_P g vwCl [(ma, .inr (6, mo_ th zk zp za zb zx zy (nI (gat_ kn xs ys SN PA PT).length) zf zt zw zm zh x0 y0 dx dy zz cu zo zu)), (zk, .inl (cI, 2, .inl kn)), (za, .inl (cI, 2, .inl pa)), (zb, .inl (cI, 2050, .inl bg)), (zp, .inl (cI, 2, .inl pt)), (zx, .inl (cI, 4096, .inl xs)), (zy, .inl (cI, 4096, .inl ys)), (zf, .inl (cI, 4096, .inl f0)), (zt, .inl (cI, 4096, .inl t0)), (zw, .inl (cI, 4096, .inl w0))] H := hP
    have hD : va_D A [(ma, .inr (6, mo_ th zk zp za zb zx zy (nI (gat_ kn xs ys SN PA PT).length) zf zt zw zm zh x0 y0 dx dy zz cu zo zu)), (zk, .inl (cI, 2, .inl kn)), (za, .inl (cI, 2, .inl pa)), (zb, .inl (cI, 2050, .inl bg)), (zp, .inl (cI, 2, .inl pt)), (zx, .inl (cI, 4096, .inl xs)), (zy, .inl (cI, 4096, .inl ys)), (zf, .inl (cI, 4096, .inl f0)), (zt, .inl (cI, 4096, .inl t0)), (zw, .inl (cI, 4096, .inl w0))] := hD
    have hP9 := hP.sub (ws' := [(ma, .inr (6, mo_ th zk zp za zb zx zy (nI (gat_ kn xs ys SN PA PT).length) zf zt zw zm zh x0 y0 dx dy zz cu zo zu)), (zk, .inl (cI, 2, .inl kn)), (za, .inl (cI, 2, .inl pa)), (zb, .inl (cI, 2050, .inl bg)), (zp, .inl (cI, 2, .inl pt)), (zx, .inl (cI, 4096, .inl xs)), (zy, .inl (cI, 4096, .inl ys)), (zf, .inl (cI, 4096, .inl f0)), (zt, .inl (cI, 4096, .inl t0)), (zw, .inl (cI, 4096, .inl w0))]) [0, 1, 2, 3, 4, 5, 6, 7, 8, 9] rfl
    have hD9 := hD.sub (ws' := [(ma, .inr (6, mo_ th zk zp za zb zx zy (nI (gat_ kn xs ys SN PA PT).length) zf zt zw zm zh x0 y0 dx dy zz cu zo zu)), (zk, .inl (cI, 2, .inl kn)), (za, .inl (cI, 2, .inl pa)), (zb, .inl (cI, 2050, .inl bg)), (zp, .inl (cI, 2, .inl pt)), (zx, .inl (cI, 4096, .inl xs)), (zy, .inl (cI, 4096, .inl ys)), (zf, .inl (cI, 4096, .inl f0)), (zt, .inl (cI, 4096, .inl t0)), (zw, .inl (cI, 4096, .inl w0))]) [0, 1, 2, 3, 4, 5, 6, 7, 8, 9] (by decide) rfl
    exact W.vret hx hb hr (fun t ht hW => ⟨⟨(f0, t0, w0), rfl, i2, by rw [ht]; exact hP9, va_K.moved hW.alike hK, hD9⟩, hS.F ht⟩) hS.2.2 dX6_gather_116
  · have e1 : sh < 2 := i_nge (b := 2) c1 (by omega) (by omega)
    obtain ⟨s1, s2, s3, s4, s5⟩ := id (hst sh e1)
    have hm := hmo sh e1
    have ihO := ih
    have hL0 : (sgl_ kn xs ys SN PA PT sh).length ≤ 2048 * sh := sgl_l hst hmo (by omega)
    refine lv_iconst (v := 0) hx hb dX6_gather_12 (by decide) ?_
    refine lv_istore_n (lv' := [(2, .int 0), (1, .int (nI sh)), (0, .ref ma)]) hx hb dX6_gather_13 rfl hl (by decide) rfl (fun ls hl => ?_)
    have hP : va_P g vwCl [(ma, .inr (6, mo_ th zk zp za zb zx zy (nI (gsh_ (kn sh) xs ys (SN sh) (PA sh) (PT sh) (sgl_ kn xs ys SN PA PT sh) sh 0).length) zf zt zw zm zh x0 y0 dx dy zz cu zo zu)), (zk, .inl (cI, 2, .inl kn)), (za, .inl (cI, 2, .inl pa)), (zb, .inl (cI, 2050, .inl bg)), (zp, .inl (cI, 2, .inl pt)), (zx, .inl (cI, 4096, .inl xs)), (zy, .inl (cI, 4096, .inl ys)), (zf, .inl (cI, 4096, .inl f0)), (zt, .inl (cI, 4096, .inl t0)), (zw, .inl (cI, 4096, .inl w0))] H := hP
    have hD : va_D A [(ma, .inr (6, mo_ th zk zp za zb zx zy (nI (gsh_ (kn sh) xs ys (SN sh) (PA sh) (PT sh) (sgl_ kn xs ys SN PA PT sh) sh 0).length) zf zt zw zm zh x0 y0 dx dy zz cu zo zu)), (zk, .inl (cI, 2, .inl kn)), (za, .inl (cI, 2, .inl pa)), (zb, .inl (cI, 2050, .inl bg)), (zp, .inl (cI, 2, .inl pt)), (zx, .inl (cI, 4096, .inl xs)), (zy, .inl (cI, 4096, .inl ys)), (zf, .inl (cI, 4096, .inl f0)), (zt, .inl (cI, 4096, .inl t0)), (zw, .inl (cI, 4096, .inl w0))] := hD
    refine lpW (σ := Nat × (Nat → Int32) × (Nat → Int32) × (Nat → Int32)) (fun (pz, f1, t1, w1) => PA sh - pz) (fun (pz, f1, t1, w1) => 0) (fun (pz, f1, t1, w1) => 0) (fun (pz, f1, t1, w1) H locs ls => (pz ≤ PA sh ∧ ml3_ f1 t1 w1 (gsh_ (kn sh) xs ys (SN sh) (PA sh) (PT sh) (sgl_ kn xs ys SN PA PT sh) sh pz)) ∧ va_P g vwCl [(ma, .inr (6, mo_ th zk zp za zb zx zy (nI (gsh_ (kn sh) xs ys (SN sh) (PA sh) (PT sh) (sgl_ kn xs ys SN PA PT sh) sh pz).length) zf zt zw zm zh x0 y0 dx dy zz cu zo zu)), (zk, .inl (cI, 2, .inl kn)), (za, .inl (cI, 2, .inl pa)), (zb, .inl (cI, 2050, .inl bg)), (zp, .inl (cI, 2, .inl pt)), (zx, .inl (cI, 4096, .inl xs)), (zy, .inl (cI, 4096, .inl ys)), (zf, .inl (cI, 4096, .inl f1)), (zt, .inl (cI, 4096, .inl t1)), (zw, .inl (cI, 4096, .inl w1))] H ∧ va_D A [(ma, .inr (6, mo_ th zk zp za zb zx zy (nI (gsh_ (kn sh) xs ys (SN sh) (PA sh) (PT sh) (sgl_ kn xs ys SN PA PT sh) sh pz).length) zf zt zw zm zh x0 y0 dx dy zz cu zo zu)), (zk, .inl (cI, 2, .inl kn)), (za, .inl (cI, 2, .inl pa)), (zb, .inl (cI, 2050, .inl bg)), (zp, .inl (cI, 2, .inl pt)), (zx, .inl (cI, 4096, .inl xs)), (zy, .inl (cI, 4096, .inl ys)), (zf, .inl (cI, 4096, .inl f1)), (zt, .inl (cI, 4096, .inl t1)), (zw, .inl (cI, 4096, .inl w1))] ∧ va_S A s.heap H locs ∧ lv_has ls 6 [(2, .int (nI pz)), (1, .int (nI sh)), (0, .ref ma)]) (fun x ih H locs ls hI => ?_) (0, f0, t0, w0) rfl rfl ⟨⟨Nat.zero_le _, i2⟩, hP, hD, hS, (lv_sub hl [0, 1, 2] rfl)⟩
    obtain ⟨pz, f1, t1, w1⟩ := x
    obtain ⟨hj, hP, hD, hS, hl⟩ := hI
    have hP : va_P g vwCl [(ma, .inr (6, mo_ th zk zp za zb zx zy (nI (gsh_ (kn sh) xs ys (SN sh) (PA sh) (PT sh) (sgl_ kn xs ys SN PA PT sh) sh pz).length) zf zt zw zm zh x0 y0 dx dy zz cu zo zu)), (zk, .inl (cI, 2, .inl kn)), (za, .inl (cI, 2, .inl pa)), (zb, .inl (cI, 2050, .inl bg)), (zp, .inl (cI, 2, .inl pt)), (zx, .inl (cI, 4096, .inl xs)), (zy, .inl (cI, 4096, .inl ys)), (zf, .inl (cI, 4096, .inl f1)), (zt, .inl (cI, 4096, .inl t1)), (zw, .inl (cI, 4096, .inl w1))] H := hP
    have hD : va_D A [(ma, .inr (6, mo_ th zk zp za zb zx zy (nI (gsh_ (kn sh) xs ys (SN sh) (PA sh) (PT sh) (sgl_ kn xs ys SN PA PT sh) sh pz).length) zf zt zw zm zh x0 y0 dx dy zz cu zo zu)), (zk, .inl (cI, 2, .inl kn)), (za, .inl (cI, 2, .inl pa)), (zb, .inl (cI, 2050, .inl bg)), (zp, .inl (cI, 2, .inl pt)), (zx, .inl (cI, 4096, .inl xs)), (zy, .inl (cI, 4096, .inl ys)), (zf, .inl (cI, 4096, .inl f1)), (zt, .inl (cI, 4096, .inl t1)), (zw, .inl (cI, 4096, .inl w1))] := hD
    have hl : lv_has ls 6 [(2, .int (nI pz)), (1, .int (nI sh)), (0, .ref ma)] := hl
    show W p l e _ s m _ below meth c H locs (0) (0) _ (F0 m 14 ls [])
    obtain ⟨j1, j2⟩ := hj
    refine lv_iload_n hx hb dX6_gather_14 rfl (lv_at hl 0 rfl) ?_
    refine lv_aload_n hx hb dX6_gather_15 rfl (lv_at hl 2 rfl) ?_
    refine va_get (D := g) (ci := 6) (v := .ref za) (C := RX6) (T := TX6) (N := 21) hx hb hts hiX6 hown hK hP 0 rfl rfl 3 (by decide) (hts (.fieldLink RX6 16 "ShapeRelatorModel" "parts" "[I") (List.mem_of_getElem? (i := 2) rfl)) (fun _ h9 => h9) rfl dX6_gather_16 ?_
    refine lv_iload_n hx hb dX6_gather_19 rfl (lv_at hl 1 rfl) ?_
    refine va_iald (D := g) hx hb hK hP 2 0 rfl rfl (vp_in_nI (show sh < 2 by omega) (by omega)) dX6_gather_20 ?_
    refine tpi_ (y := (nI (PA sh))) (by rw [nI_clamp (by omega), s2]) ?_
    refine lv_icmp_ge (tgt := 110) hx hb dX6_gather_21 (by decide) (fun c2 => ?_) (fun c2 => ?_)
    · have e2 : pz = PA sh := by have := i_ge c2 (by omega) (by omega); omega
      have eg : gsh_ (kn sh) xs ys (SN sh) (PA sh) (PT sh) (sgl_ kn xs ys SN PA PT sh) sh pz = sgl_ kn xs ys SN PA PT (sh + 1) := by rw [e2]; exact sgl_s e1
      rw [eg] at hP hD j2
      have hP : va_P g vwCl [(ma, .inr (6, mo_ th zk zp za zb zx zy (nI (sgl_ kn xs ys SN PA PT (sh + 1)).length) zf zt zw zm zh x0 y0 dx dy zz cu zo zu)), (zk, .inl (cI, 2, .inl kn)), (za, .inl (cI, 2, .inl pa)), (zb, .inl (cI, 2050, .inl bg)), (zp, .inl (cI, 2, .inl pt)), (zx, .inl (cI, 4096, .inl xs)), (zy, .inl (cI, 4096, .inl ys)), (zf, .inl (cI, 4096, .inl f1)), (zt, .inl (cI, 4096, .inl t1)), (zw, .inl (cI, 4096, .inl w1))] H := hP
      have hD : va_D A [(ma, .inr (6, mo_ th zk zp za zb zx zy (nI (sgl_ kn xs ys SN PA PT (sh + 1)).length) zf zt zw zm zh x0 y0 dx dy zz cu zo zu)), (zk, .inl (cI, 2, .inl kn)), (za, .inl (cI, 2, .inl pa)), (zb, .inl (cI, 2050, .inl bg)), (zp, .inl (cI, 2, .inl pt)), (zx, .inl (cI, 4096, .inl xs)), (zy, .inl (cI, 4096, .inl ys)), (zf, .inl (cI, 4096, .inl f1)), (zt, .inl (cI, 4096, .inl t1)), (zw, .inl (cI, 4096, .inl w1))] := hD
      refine lv_iinc (v := (nI (sh + 1))) (lv' := [(1, .int (nI (sh + 1))), (2, .int (nI pz)), (0, .ref ma)]) hx hb dX6_gather_110 hl (k := 1) rfl (nI_1 sh) (by decide) rfl (fun ls hl => ?_)
      refine lv_goto (tgt := 7) hx hb dX6_gather_113 (by decide) ?_
      have ih := ihO
      exact ih (sh + 1, f1, t1, w1) (by show 2 - (sh + 1) < 2 - sh; omega) H locs ls ⟨⟨e1, j2⟩, hP, hD, hS, (lv_sub hl [0, 2] rfl)⟩
    · have e2 : pz < PA sh := i_nge c2 (by omega) (by omega)
      have hg := gsh_l (kd := kn sh) (xs := xs) (ys := ys) (s := sh) (L := sgl_ kn xs ys SN PA PT sh) hm pz (by omega)
      have hpe := pe_m hm e2
      have hbn : bn_ (SN sh) (PA sh) (PT sh) pz = SN sh pz := by unfold bn_; rw [if_pos e2]
      rw [hbn] at hg
      refine lv_aload_n hx hb dX6_gather_24 rfl (lv_at hl 2 rfl) ?_
      refine lv_iload_n hx hb dX6_gather_25 rfl (lv_at hl 1 rfl) ?_
      refine lv_iload_n hx hb dX6_gather_26 rfl (lv_at hl 0 rfl) ?_
      have hPc := hP.sub (ws' := [(ma, .inr (6, mo_ th zk zp za zb zx zy (nI (gsh_ (kn sh) xs ys (SN sh) (PA sh) (PT sh) (sgl_ kn xs ys SN PA PT sh) sh pz).length) zf zt zw zm zh x0 y0 dx dy zz cu zo zu)), (zb, .inl (cI, 2050, .inl bg))]) [0, 3] rfl
      have hDc := hD.sub (ws' := [(ma, .inr (6, mo_ th zk zp za zb zx zy (nI (gsh_ (kn sh) xs ys (SN sh) (PA sh) (PT sh) (sgl_ kn xs ys SN PA PT sh) sh pz).length) zf zt zw zm zh x0 y0 dx dy zz cu zo zu)), (zb, .inl (cI, 2050, .inl bg))]) [0, 3] (by decide) rfl
      have hFc := va_free (wc := [(ma, .inr (6, mo_ th zk zp za zb zx zy (nI (gsh_ (kn sh) xs ys (SN sh) (PA sh) (PT sh) (sgl_ kn xs ys SN PA PT sh) sh pz).length) zf zt zw zm zh x0 y0 dx dy zz cu zo zu)), (zb, .inl (cI, 2050, .inl bg))]) hD hS hA [0, 3] rfl
      refine va_calli (va_runV (As := [.int (nI sh), .int (nI pz)]) (rest := []) ⟨hx, hb, hml, hown, hts⟩ (kX6_first l g cI cJ cZ H.size ma th (nI (gsh_ (kn sh) xs ys (SN sh) (PA sh) (PT sh) (sgl_ kn xs ys SN PA PT sh) sh pz).length) x0 y0 dx dy cu zk zp za zb zx zy zf zt zw zm zh zz zo zu bg sh pz (SN sh pz) e1 (by omega) ((s5 pz e2).1)) (cwV 2 hts gX6_gather_X6_first rfl rfl rfl (by decide +kernel) ⟨Nat.le_of_ble_eq_true rfl, Nat.le_of_ble_eq_true rfl⟩) (pv_ hK hPc hDc (va_recv hK hPc (ci := 6) (q0 := 0) rfl rfl)) rfl rfl hl.1 rfl (lv_room (Nat.le_of_ble_eq_true rfl)) dX6_gather_27 ⟨Nat.zero_le _, Nat.zero_le _⟩) hS (fun q _ h => hFc q h) hFc (fun r1 u t H1 locs ht hvm hw1 hB hz1 hk1 hS => ?_)
      obtain ⟨hP1, hK1, hD1⟩ := hB
      rw [ht] at hP1
      obtain ⟨hP, hD⟩ := va_join (wr := [(zk, .inl (cI, 2, .inl kn)), (za, .inl (cI, 2, .inl pa)), (zp, .inl (cI, 2, .inl pt)), (zx, .inl (cI, 4096, .inl xs)), (zy, .inl (cI, 4096, .inl ys)), (zf, .inl (cI, 4096, .inl f1)), (zt, .inl (cI, 4096, .inl t1)), (zw, .inl (cI, 4096, .inl w1))]) (w1 := [(ma, .inr (6, mo_ th zk zp za zb zx zy (nI (gsh_ (kn sh) xs ys (SN sh) (PA sh) (PT sh) (sgl_ kn xs ys SN PA PT sh) sh pz).length) zf zt zw zm zh x0 y0 dx dy zz cu zo zu)), (zb, .inl (cI, 2050, .inl bg))]) hP hD [0, 3] [1, 2, 4, 5, 6, 7, 8, 9] rfl rfl (by decide) (by decide) hk1 hFc hP1 hD1
      clear hPc hDc hFc hP1 hD1 hK1 hk1 hz1 hvm ht
      generalize H1 = H at hP hS ⊢
      have hP : va_P g vwCl [(zk, .inl (cI, 2, .inl kn)), (za, .inl (cI, 2, .inl pa)), (zp, .inl (cI, 2, .inl pt)), (zx, .inl (cI, 4096, .inl xs)), (zy, .inl (cI, 4096, .inl ys)), (zf, .inl (cI, 4096, .inl f1)), (zt, .inl (cI, 4096, .inl t1)), (zw, .inl (cI, 4096, .inl w1)), (ma, .inr (6, mo_ th zk zp za zb zx zy (nI (gsh_ (kn sh) xs ys (SN sh) (PA sh) (PT sh) (sgl_ kn xs ys SN PA PT sh) sh pz).length) zf zt zw zm zh x0 y0 dx dy zz cu zo zu)), (zb, .inl (cI, 2050, .inl bg))] H := hP
      have hD : va_D A [(zk, .inl (cI, 2, .inl kn)), (za, .inl (cI, 2, .inl pa)), (zp, .inl (cI, 2, .inl pt)), (zx, .inl (cI, 4096, .inl xs)), (zy, .inl (cI, 4096, .inl ys)), (zf, .inl (cI, 4096, .inl f1)), (zt, .inl (cI, 4096, .inl t1)), (zw, .inl (cI, 4096, .inl w1)), (ma, .inr (6, mo_ th zk zp za zb zx zy (nI (gsh_ (kn sh) xs ys (SN sh) (PA sh) (PT sh) (sgl_ kn xs ys SN PA PT sh) sh pz).length) zf zt zw zm zh x0 y0 dx dy zz cu zo zu)), (zb, .inl (cI, 2050, .inl bg))] := hD
      subst hw1
      refine lv_istore_n (lv' := [(3, .int (nI (2048 * sh + SN sh pz))), (2, .int (nI pz)), (1, .int (nI sh)), (0, .ref ma)]) hx hb dX6_gather_30 rfl hl (by decide) rfl (fun ls hl => ?_)
      refine lv_aload_n hx hb dX6_gather_31 rfl (lv_at hl 3 rfl) ?_
      refine lv_iload_n hx hb dX6_gather_32 rfl (lv_at hl 2 rfl) ?_
      refine lv_iload_n hx hb dX6_gather_33 rfl (lv_at hl 1 rfl) ?_
      have hPc := hP.sub (ws' := [(ma, .inr (6, mo_ th zk zp za zb zx zy (nI (gsh_ (kn sh) xs ys (SN sh) (PA sh) (PT sh) (sgl_ kn xs ys SN PA PT sh) sh pz).length) zf zt zw zm zh x0 y0 dx dy zz cu zo zu)), (za, .inl (cI, 2, .inl pa)), (zb, .inl (cI, 2050, .inl bg)), (zp, .inl (cI, 2, .inl pt))]) [8, 1, 9, 2] rfl
      have hDc := hD.sub (ws' := [(ma, .inr (6, mo_ th zk zp za zb zx zy (nI (gsh_ (kn sh) xs ys (SN sh) (PA sh) (PT sh) (sgl_ kn xs ys SN PA PT sh) sh pz).length) zf zt zw zm zh x0 y0 dx dy zz cu zo zu)), (za, .inl (cI, 2, .inl pa)), (zb, .inl (cI, 2050, .inl bg)), (zp, .inl (cI, 2, .inl pt))]) [8, 1, 9, 2] (by decide) rfl
      have hFc := va_free (wc := [(ma, .inr (6, mo_ th zk zp za zb zx zy (nI (gsh_ (kn sh) xs ys (SN sh) (PA sh) (PT sh) (sgl_ kn xs ys SN PA PT sh) sh pz).length) zf zt zw zm zh x0 y0 dx dy zz cu zo zu)), (za, .inl (cI, 2, .inl pa)), (zb, .inl (cI, 2050, .inl bg)), (zp, .inl (cI, 2, .inl pt))]) hD hS hA [8, 1, 9, 2] rfl
      refine va_calli (va_runV (As := [.int (nI sh), .int (nI pz)]) (rest := []) ⟨hx, hb, hml, hown, hts⟩ (kX6_end l g cI cJ cZ H.size ma th (nI (gsh_ (kn sh) xs ys (SN sh) (PA sh) (PT sh) (sgl_ kn xs ys SN PA PT sh) sh pz).length) x0 y0 dx dy cu zk zp za zb zx zy zf zt zw zm zh zz zo zu pa bg pt PT PA SN sh pz e1 hst e2) (cwV 2 hts gX6_gather_X6_end rfl rfl rfl (by decide +kernel) ⟨Nat.le_of_ble_eq_true rfl, Nat.le_of_ble_eq_true rfl⟩) (pv_ hK hPc hDc (va_recv hK hPc (ci := 6) (q0 := 0) rfl rfl)) rfl rfl hl.1 rfl (lv_room (Nat.le_of_ble_eq_true rfl)) dX6_gather_34 ⟨Nat.zero_le _, Nat.zero_le _⟩) hS (fun q _ h => hFc q h) hFc (fun r2 u t H1 locs ht hvm hw2 hB hz1 hk1 hS => ?_)
      obtain ⟨hP1, hK1, hD1⟩ := hB
      rw [ht] at hP1
      obtain ⟨hP, hD⟩ := va_join (wr := [(zk, .inl (cI, 2, .inl kn)), (zx, .inl (cI, 4096, .inl xs)), (zy, .inl (cI, 4096, .inl ys)), (zf, .inl (cI, 4096, .inl f1)), (zt, .inl (cI, 4096, .inl t1)), (zw, .inl (cI, 4096, .inl w1))]) (w1 := [(ma, .inr (6, mo_ th zk zp za zb zx zy (nI (gsh_ (kn sh) xs ys (SN sh) (PA sh) (PT sh) (sgl_ kn xs ys SN PA PT sh) sh pz).length) zf zt zw zm zh x0 y0 dx dy zz cu zo zu)), (za, .inl (cI, 2, .inl pa)), (zb, .inl (cI, 2050, .inl bg)), (zp, .inl (cI, 2, .inl pt))]) hP hD [8, 1, 9, 2] [0, 3, 4, 5, 6, 7] rfl rfl (by decide) (by decide) hk1 hFc hP1 hD1
      clear hPc hDc hFc hP1 hD1 hK1 hk1 hz1 hvm ht
      generalize H1 = H at hP hS ⊢
      have hP : va_P g vwCl [(zk, .inl (cI, 2, .inl kn)), (zx, .inl (cI, 4096, .inl xs)), (zy, .inl (cI, 4096, .inl ys)), (zf, .inl (cI, 4096, .inl f1)), (zt, .inl (cI, 4096, .inl t1)), (zw, .inl (cI, 4096, .inl w1)), (ma, .inr (6, mo_ th zk zp za zb zx zy (nI (gsh_ (kn sh) xs ys (SN sh) (PA sh) (PT sh) (sgl_ kn xs ys SN PA PT sh) sh pz).length) zf zt zw zm zh x0 y0 dx dy zz cu zo zu)), (za, .inl (cI, 2, .inl pa)), (zb, .inl (cI, 2050, .inl bg)), (zp, .inl (cI, 2, .inl pt))] H := hP
      have hD : va_D A [(zk, .inl (cI, 2, .inl kn)), (zx, .inl (cI, 4096, .inl xs)), (zy, .inl (cI, 4096, .inl ys)), (zf, .inl (cI, 4096, .inl f1)), (zt, .inl (cI, 4096, .inl t1)), (zw, .inl (cI, 4096, .inl w1)), (ma, .inr (6, mo_ th zk zp za zb zx zy (nI (gsh_ (kn sh) xs ys (SN sh) (PA sh) (PT sh) (sgl_ kn xs ys SN PA PT sh) sh pz).length) zf zt zw zm zh x0 y0 dx dy zz cu zo zu)), (za, .inl (cI, 2, .inl pa)), (zb, .inl (cI, 2050, .inl bg)), (zp, .inl (cI, 2, .inl pt))] := hD
      subst hw2
      obtain ⟨L1, eL1⟩ : ∃ q, q = gsh_ (kn sh) xs ys (SN sh) (PA sh) (PT sh) (sgl_ kn xs ys SN PA PT sh) sh pz := ⟨_, rfl⟩
      rw [← eL1] at hP hD j2 hg
      have hP : va_P g vwCl [(zk, .inl (cI, 2, .inl kn)), (zx, .inl (cI, 4096, .inl xs)), (zy, .inl (cI, 4096, .inl ys)), (zf, .inl (cI, 4096, .inl f1)), (zt, .inl (cI, 4096, .inl t1)), (zw, .inl (cI, 4096, .inl w1)), (ma, .inr (6, mo_ th zk zp za zb zx zy (nI L1.length) zf zt zw zm zh x0 y0 dx dy zz cu zo zu)), (za, .inl (cI, 2, .inl pa)), (zb, .inl (cI, 2050, .inl bg)), (zp, .inl (cI, 2, .inl pt))] H := hP
      have hD : va_D A [(zk, .inl (cI, 2, .inl kn)), (zx, .inl (cI, 4096, .inl xs)), (zy, .inl (cI, 4096, .inl ys)), (zf, .inl (cI, 4096, .inl f1)), (zt, .inl (cI, 4096, .inl t1)), (zw, .inl (cI, 4096, .inl w1)), (ma, .inr (6, mo_ th zk zp za zb zx zy (nI L1.length) zf zt zw zm zh x0 y0 dx dy zz cu zo zu)), (za, .inl (cI, 2, .inl pa)), (zb, .inl (cI, 2050, .inl bg)), (zp, .inl (cI, 2, .inl pt))] := hD
      obtain ⟨a, ea⟩ : ∃ q, q = 2048 * sh + SN sh pz := ⟨_, rfl⟩
      obtain ⟨b, eb⟩ : ∃ q, q = 2048 * sh + pe_ (SN sh) (PA sh) (PT sh) pz := ⟨_, rfl⟩
      rw [← ea] at hl
      rw [← eb]
      refine lv_istore (lv' := [(4, .int (nI b)), (3, .int (nI a)), (2, .int (nI pz)), (1, .int (nI sh)), (0, .ref ma)]) hx hb dX6_gather_37 hl (by decide) rfl (fun ls hl => ?_)
      refine lv_iload_n hx hb dX6_gather_39 rfl (lv_at hl 1 rfl) ?_
      refine lv_istore (lv' := [(5, .int (nI a)), (4, .int (nI b)), (3, .int (nI a)), (2, .int (nI pz)), (1, .int (nI sh)), (0, .ref ma)]) hx hb dX6_gather_40 hl (by decide) rfl (fun ls hl => ?_)
      have e0 : L1 = gsg_ xs ys L1 sh a (a - a) := by rw [Nat.sub_self]; rfl
      rw [e0] at hP hD
      have hP : va_P g vwCl [(zk, .inl (cI, 2, .inl kn)), (zx, .inl (cI, 4096, .inl xs)), (zy, .inl (cI, 4096, .inl ys)), (zf, .inl (cI, 4096, .inl f1)), (zt, .inl (cI, 4096, .inl t1)), (zw, .inl (cI, 4096, .inl w1)), (ma, .inr (6, mo_ th zk zp za zb zx zy (nI (gsg_ xs ys L1 sh a (a - a)).length) zf zt zw zm zh x0 y0 dx dy zz cu zo zu)), (za, .inl (cI, 2, .inl pa)), (zb, .inl (cI, 2050, .inl bg)), (zp, .inl (cI, 2, .inl pt))] H := hP
      have hD : va_D A [(zk, .inl (cI, 2, .inl kn)), (zx, .inl (cI, 4096, .inl xs)), (zy, .inl (cI, 4096, .inl ys)), (zf, .inl (cI, 4096, .inl f1)), (zt, .inl (cI, 4096, .inl t1)), (zw, .inl (cI, 4096, .inl w1)), (ma, .inr (6, mo_ th zk zp za zb zx zy (nI (gsg_ xs ys L1 sh a (a - a)).length) zf zt zw zm zh x0 y0 dx dy zz cu zo zu)), (za, .inl (cI, 2, .inl pa)), (zb, .inl (cI, 2050, .inl bg)), (zp, .inl (cI, 2, .inl pt))] := hD
      have ihP := ih
      refine lpW (σ := Nat × (Nat → Int32) × (Nat → Int32) × (Nat → Int32)) (fun (k, f2, t2, w2) => b + 1 - k) (fun (k, f2, t2, w2) => 0) (fun (k, f2, t2, w2) => 0) (fun (k, f2, t2, w2) H locs ls => (a ≤ k ∧ (k = a ∨ k + 1 ≤ b) ∧ (k = a ∨ 1 < kn sh) ∧ ml3_ f2 t2 w2 (gsg_ xs ys L1 sh a (k - a))) ∧ va_P g vwCl [(zk, .inl (cI, 2, .inl kn)), (zx, .inl (cI, 4096, .inl xs)), (zy, .inl (cI, 4096, .inl ys)), (zf, .inl (cI, 4096, .inl f2)), (zt, .inl (cI, 4096, .inl t2)), (zw, .inl (cI, 4096, .inl w2)), (ma, .inr (6, mo_ th zk zp za zb zx zy (nI (gsg_ xs ys L1 sh a (k - a)).length) zf zt zw zm zh x0 y0 dx dy zz cu zo zu)), (za, .inl (cI, 2, .inl pa)), (zb, .inl (cI, 2050, .inl bg)), (zp, .inl (cI, 2, .inl pt))] H ∧ va_D A [(zk, .inl (cI, 2, .inl kn)), (zx, .inl (cI, 4096, .inl xs)), (zy, .inl (cI, 4096, .inl ys)), (zf, .inl (cI, 4096, .inl f2)), (zt, .inl (cI, 4096, .inl t2)), (zw, .inl (cI, 4096, .inl w2)), (ma, .inr (6, mo_ th zk zp za zb zx zy (nI (gsg_ xs ys L1 sh a (k - a)).length) zf zt zw zm zh x0 y0 dx dy zz cu zo zu)), (za, .inl (cI, 2, .inl pa)), (zb, .inl (cI, 2050, .inl bg)), (zp, .inl (cI, 2, .inl pt))] ∧ va_S A s.heap H locs ∧ lv_has ls 6 [(5, .int (nI k)), (4, .int (nI b)), (3, .int (nI a)), (2, .int (nI pz)), (1, .int (nI sh)), (0, .ref ma)]) (fun x ih H locs ls hI => ?_) (a, f1, t1, w1) rfl rfl ⟨⟨Nat.le_refl _, Or.inl rfl, Or.inl rfl, by rw [← e0]; exact j2⟩, hP, hD, hS, (lv_sub hl [0, 1, 2, 3, 4, 5] rfl)⟩
      obtain ⟨k, f2, t2, w2⟩ := x
      obtain ⟨hk, hP, hD, hS, hl⟩ := hI
      have hP : va_P g vwCl [(zk, .inl (cI, 2, .inl kn)), (zx, .inl (cI, 4096, .inl xs)), (zy, .inl (cI, 4096, .inl ys)), (zf, .inl (cI, 4096, .inl f2)), (zt, .inl (cI, 4096, .inl t2)), (zw, .inl (cI, 4096, .inl w2)), (ma, .inr (6, mo_ th zk zp za zb zx zy (nI (gsg_ xs ys L1 sh a (k - a)).length) zf zt zw zm zh x0 y0 dx dy zz cu zo zu)), (za, .inl (cI, 2, .inl pa)), (zb, .inl (cI, 2050, .inl bg)), (zp, .inl (cI, 2, .inl pt))] H := hP
      have hD : va_D A [(zk, .inl (cI, 2, .inl kn)), (zx, .inl (cI, 4096, .inl xs)), (zy, .inl (cI, 4096, .inl ys)), (zf, .inl (cI, 4096, .inl f2)), (zt, .inl (cI, 4096, .inl t2)), (zw, .inl (cI, 4096, .inl w2)), (ma, .inr (6, mo_ th zk zp za zb zx zy (nI (gsg_ xs ys L1 sh a (k - a)).length) zf zt zw zm zh x0 y0 dx dy zz cu zo zu)), (za, .inl (cI, 2, .inl pa)), (zb, .inl (cI, 2050, .inl bg)), (zp, .inl (cI, 2, .inl pt))] := hD
      have hl : lv_has ls 6 [(5, .int (nI k)), (4, .int (nI b)), (3, .int (nI a)), (2, .int (nI pz)), (1, .int (nI sh)), (0, .ref ma)] := hl
      show W p l e _ s m _ below meth c H locs (0) (0) _ (F0 m 42 ls [])
      obtain ⟨k1, k2, k3, k4⟩ := hk
      have hg2 := gsg_l (xs := xs) (ys := ys) (L := L1) (s := sh) (a := a) (k - a)
      refine lv_iload hx hb dX6_gather_42 (lv_at hl 0 rfl) ?_
      refine lv_iconst (v := 1) hx hb dX6_gather_44 (by decide) ?_
      refine lv_iadd hx hb dX6_gather_45 ?_
      refine tpi_ (y := (nI (k + 1))) ((nI_1 k).symm) ?_
      refine lv_iload hx hb dX6_gather_46 (lv_at hl 1 rfl) ?_
      refine lv_icmp_ge (tgt := 78) hx hb dX6_gather_48 (by decide) (fun c3 => ?_) (fun c3 => ?_)
      · have q3 : b ≤ k + 1 := i_ge c3 (by omega) (by omega)
        have em : gsg_ xs ys L1 sh a (k - a) = (if 1 < kn sh then gsg_ xs ys L1 sh a (b - 1 - a) else L1) := by rcases k3 with q | q; (· rw [q, Nat.sub_self]; split; (· rw [show b - 1 - a = 0 by omega]); rfl); rw [if_pos q]; congr 1; omega
        refine lv_aload_n hx hb dX6_gather_78 rfl (lv_at hl 5 rfl) ?_
        refine va_get (D := g) (ci := 6) (v := .ref zk) (C := RX6) (T := TX6) (N := 21) hx hb hts hiX6 hown hK hP 6 rfl rfl 1 (by decide) (hts (.fieldLink RX6 7 "ShapeRelatorModel" "kinds" "[I") (List.mem_of_getElem? (i := 3) rfl)) (fun _ h9 => h9) rfl dX6_gather_79 ?_
        refine lv_iload_n hx hb dX6_gather_82 rfl (lv_at hl 4 rfl) ?_
        refine va_iald (D := g) hx hb hK hP 0 0 rfl rfl (vp_in_nI (show sh < 2 by omega) (by omega)) dX6_gather_83 ?_
        refine tpi_ (y := (kn sh)) (by rw [nI_clamp (by omega)]) ?_
        refine lv_iconst (v := 3) hx hb dX6_gather_84 (by decide) ?_
        refine lv_icmp_ne (tgt := 104) hx hb dX6_gather_85 (by decide) (fun c5 => ?_) (fun c5 => ?_)
        · have eg : gsg_ xs ys L1 sh a (k - a) = gsh_ (kn sh) xs ys (SN sh) (PA sh) (PT sh) (sgl_ kn xs ys SN PA PT sh) sh (pz + 1) := by rw [gsh_, ← eL1, ← ea, ← eb, em]; unfold gpt_; rw [if_neg (show ¬(kn sh = 3 ∧ a < b) from fun h => c5 h.1)]
          rw [eg] at hP hD k4
          have hP : va_P g vwCl [(zk, .inl (cI, 2, .inl kn)), (zx, .inl (cI, 4096, .inl xs)), (zy, .inl (cI, 4096, .inl ys)), (zf, .inl (cI, 4096, .inl f2)), (zt, .inl (cI, 4096, .inl t2)), (zw, .inl (cI, 4096, .inl w2)), (ma, .inr (6, mo_ th zk zp za zb zx zy (nI (gsh_ (kn sh) xs ys (SN sh) (PA sh) (PT sh) (sgl_ kn xs ys SN PA PT sh) sh (pz + 1)).length) zf zt zw zm zh x0 y0 dx dy zz cu zo zu)), (za, .inl (cI, 2, .inl pa)), (zb, .inl (cI, 2050, .inl bg)), (zp, .inl (cI, 2, .inl pt))] H := hP
          have hD : va_D A [(zk, .inl (cI, 2, .inl kn)), (zx, .inl (cI, 4096, .inl xs)), (zy, .inl (cI, 4096, .inl ys)), (zf, .inl (cI, 4096, .inl f2)), (zt, .inl (cI, 4096, .inl t2)), (zw, .inl (cI, 4096, .inl w2)), (ma, .inr (6, mo_ th zk zp za zb zx zy (nI (gsh_ (kn sh) xs ys (SN sh) (PA sh) (PT sh) (sgl_ kn xs ys SN PA PT sh) sh (pz + 1)).length) zf zt zw zm zh x0 y0 dx dy zz cu zo zu)), (za, .inl (cI, 2, .inl pa)), (zb, .inl (cI, 2050, .inl bg)), (zp, .inl (cI, 2, .inl pt))] := hD
          refine lv_iinc (v := (nI (pz + 1))) (lv' := [(2, .int (nI (pz + 1))), (5, .int (nI k)), (4, .int (nI b)), (3, .int (nI a)), (1, .int (nI sh)), (0, .ref ma)]) hx hb dX6_gather_104 hl (k := 3) rfl (nI_1 pz) (by decide) rfl (fun ls hl => ?_)
          refine lv_goto (tgt := 14) hx hb dX6_gather_107 (by decide) ?_
          have ih := ihP
          exact ih (pz + 1, f2, t2, w2) (by show PA sh - (pz + 1) < PA sh - pz; omega) H locs ls ⟨⟨e2, k4⟩, (hP.sub [6, 0, 7, 8, 9, 1, 2, 3, 4, 5] rfl), (hD.sub [6, 0, 7, 8, 9, 1, 2, 3, 4, 5] (by decide) rfl), hS, (lv_sub hl [0, 4, 5] rfl)⟩
        · refine lv_iload hx hb dX6_gather_88 (lv_at hl 1 rfl) ?_
          refine lv_iload_n hx hb dX6_gather_90 rfl (lv_at hl 2 rfl) ?_
          refine lv_icmp_le (tgt := 104) hx hb dX6_gather_91 (by decide) (fun c6 => ?_) (fun c6 => ?_)
          · have q6 : b ≤ a := i_ge c6 (by omega) (by omega)
            have eg : gsg_ xs ys L1 sh a (k - a) = gsh_ (kn sh) xs ys (SN sh) (PA sh) (PT sh) (sgl_ kn xs ys SN PA PT sh) sh (pz + 1) := by rw [gsh_, ← eL1, ← ea, ← eb, em]; unfold gpt_; rw [if_neg (show ¬(kn sh = 3 ∧ a < b) from fun h => absurd h.2 (by omega))]
            rw [eg] at hP hD k4
            have hP : va_P g vwCl [(zk, .inl (cI, 2, .inl kn)), (zx, .inl (cI, 4096, .inl xs)), (zy, .inl (cI, 4096, .inl ys)), (zf, .inl (cI, 4096, .inl f2)), (zt, .inl (cI, 4096, .inl t2)), (zw, .inl (cI, 4096, .inl w2)), (ma, .inr (6, mo_ th zk zp za zb zx zy (nI (gsh_ (kn sh) xs ys (SN sh) (PA sh) (PT sh) (sgl_ kn xs ys SN PA PT sh) sh (pz + 1)).length) zf zt zw zm zh x0 y0 dx dy zz cu zo zu)), (za, .inl (cI, 2, .inl pa)), (zb, .inl (cI, 2050, .inl bg)), (zp, .inl (cI, 2, .inl pt))] H := hP
            have hD : va_D A [(zk, .inl (cI, 2, .inl kn)), (zx, .inl (cI, 4096, .inl xs)), (zy, .inl (cI, 4096, .inl ys)), (zf, .inl (cI, 4096, .inl f2)), (zt, .inl (cI, 4096, .inl t2)), (zw, .inl (cI, 4096, .inl w2)), (ma, .inr (6, mo_ th zk zp za zb zx zy (nI (gsh_ (kn sh) xs ys (SN sh) (PA sh) (PT sh) (sgl_ kn xs ys SN PA PT sh) sh (pz + 1)).length) zf zt zw zm zh x0 y0 dx dy zz cu zo zu)), (za, .inl (cI, 2, .inl pa)), (zb, .inl (cI, 2050, .inl bg)), (zp, .inl (cI, 2, .inl pt))] := hD
            refine lv_iinc (v := (nI (pz + 1))) (lv' := [(2, .int (nI (pz + 1))), (5, .int (nI k)), (4, .int (nI b)), (3, .int (nI a)), (1, .int (nI sh)), (0, .ref ma)]) hx hb dX6_gather_104 hl (k := 3) rfl (nI_1 pz) (by decide) rfl (fun ls hl => ?_)
            refine lv_goto (tgt := 14) hx hb dX6_gather_107 (by decide) ?_
            have ih := ihP
            exact ih (pz + 1, f2, t2, w2) (by show PA sh - (pz + 1) < PA sh - pz; omega) H locs ls ⟨⟨e2, k4⟩, (hP.sub [6, 0, 7, 8, 9, 1, 2, 3, 4, 5] rfl), (hD.sub [6, 0, 7, 8, 9, 1, 2, 3, 4, 5] (by decide) rfl), hS, (lv_sub hl [0, 4, 5] rfl)⟩
          · have q6 : a < b := i_nge c6 (by omega) (by omega)
            refine lv_aload_n hx hb dX6_gather_94 rfl (lv_at hl 5 rfl) ?_
            refine lv_iload_n hx hb dX6_gather_95 rfl (lv_at hl 4 rfl) ?_
            refine lv_iload hx hb dX6_gather_96 (lv_at hl 1 rfl) ?_
            refine lv_iconst (v := 1) hx hb dX6_gather_98 (by decide) ?_
            refine lv_isub hx hb dX6_gather_99 ?_
            refine tpi_ (y := (nI (b - 1))) ((pk_sub (a := b) (b := 1) (by omega)).symm) ?_
            refine lv_iload_n hx hb dX6_gather_100 rfl (lv_at hl 2 rfl) ?_
            have hPc := hP.sub (ws' := [(ma, .inr (6, mo_ th zk zp za zb zx zy (nI (gsg_ xs ys L1 sh a (k - a)).length) zf zt zw zm zh x0 y0 dx dy zz cu zo zu)), (zx, .inl (cI, 4096, .inl xs)), (zy, .inl (cI, 4096, .inl ys)), (zf, .inl (cI, 4096, .inl f2)), (zt, .inl (cI, 4096, .inl t2)), (zw, .inl (cI, 4096, .inl w2))]) [6, 1, 2, 3, 4, 5] rfl
            have hDc := hD.sub (ws' := [(ma, .inr (6, mo_ th zk zp za zb zx zy (nI (gsg_ xs ys L1 sh a (k - a)).length) zf zt zw zm zh x0 y0 dx dy zz cu zo zu)), (zx, .inl (cI, 4096, .inl xs)), (zy, .inl (cI, 4096, .inl ys)), (zf, .inl (cI, 4096, .inl f2)), (zt, .inl (cI, 4096, .inl t2)), (zw, .inl (cI, 4096, .inl w2))]) [6, 1, 2, 3, 4, 5] (by decide) rfl
            have hFc := va_free (wc := [(ma, .inr (6, mo_ th zk zp za zb zx zy (nI (gsg_ xs ys L1 sh a (k - a)).length) zf zt zw zm zh x0 y0 dx dy zz cu zo zu)), (zx, .inl (cI, 4096, .inl xs)), (zy, .inl (cI, 4096, .inl ys)), (zf, .inl (cI, 4096, .inl f2)), (zt, .inl (cI, 4096, .inl t2)), (zw, .inl (cI, 4096, .inl w2))]) hD hS hA [6, 1, 2, 3, 4, 5] rfl
            refine va_callv (va_runV (As := [.int (nI sh), .int (nI (b - 1)), .int (nI a)]) (rest := []) ⟨hx, hb, hml, hown, hts⟩ (kX6_join l g cI cJ cZ H.size ma th x0 y0 dx dy cu zk zp za zb zx zy zf zt zw zm zh zz zo zu xs ys f2 t2 w2 (gsg_ xs ys L1 sh a (k - a)) sh (b - 1) a (by omega) (by omega) (by omega) k4) (cwV 3 hts gX6_gather_X6_join rfl rfl rfl (by decide +kernel) ⟨Nat.le_of_ble_eq_true rfl, Nat.le_of_ble_eq_true rfl⟩) (pv_ hK hPc hDc (va_recv hK hPc (ci := 6) (q0 := 0) rfl rfl)) rfl rfl hl.1 rfl (lv_room (Nat.le_of_ble_eq_true rfl)) dX6_gather_101 ⟨Nat.zero_le _, Nat.zero_le _⟩) hS (fun q _ h => hFc q h) hFc (fun u t H1 locs ht hvm hw3 hB hz1 hk1 hS => ?_)
            obtain ⟨f3, t3, w3⟩ := u
            obtain ⟨hP1, hK1, hD1⟩ := hB
            rw [ht] at hP1
            dsimp only at hw3
            obtain ⟨hP, hD⟩ := va_join (wr := [(zk, .inl (cI, 2, .inl kn)), (za, .inl (cI, 2, .inl pa)), (zb, .inl (cI, 2050, .inl bg)), (zp, .inl (cI, 2, .inl pt))]) (w1 := [(ma, .inr (6, mo_ th zk zp za zb zx zy (nI (jn_ xs ys (gsg_ xs ys L1 sh a (k - a)) (b - 1) a sh).length) zf zt zw zm zh x0 y0 dx dy zz cu zo zu)), (zx, .inl (cI, 4096, .inl xs)), (zy, .inl (cI, 4096, .inl ys)), (zf, .inl (cI, 4096, .inl f3)), (zt, .inl (cI, 4096, .inl t3)), (zw, .inl (cI, 4096, .inl w3))]) hP hD [6, 1, 2, 3, 4, 5] [0, 7, 8, 9] rfl rfl (by decide) (by decide) hk1 hFc hP1 hD1
            clear hPc hDc hFc hP1 hD1 hK1 hk1 hz1 hvm ht
            generalize H1 = H at hP hS ⊢
            have hP : va_P g vwCl [(zk, .inl (cI, 2, .inl kn)), (za, .inl (cI, 2, .inl pa)), (zb, .inl (cI, 2050, .inl bg)), (zp, .inl (cI, 2, .inl pt)), (ma, .inr (6, mo_ th zk zp za zb zx zy (nI (jn_ xs ys (gsg_ xs ys L1 sh a (k - a)) (b - 1) a sh).length) zf zt zw zm zh x0 y0 dx dy zz cu zo zu)), (zx, .inl (cI, 4096, .inl xs)), (zy, .inl (cI, 4096, .inl ys)), (zf, .inl (cI, 4096, .inl f3)), (zt, .inl (cI, 4096, .inl t3)), (zw, .inl (cI, 4096, .inl w3))] H := hP
            have hD : va_D A [(zk, .inl (cI, 2, .inl kn)), (za, .inl (cI, 2, .inl pa)), (zb, .inl (cI, 2050, .inl bg)), (zp, .inl (cI, 2, .inl pt)), (ma, .inr (6, mo_ th zk zp za zb zx zy (nI (jn_ xs ys (gsg_ xs ys L1 sh a (k - a)) (b - 1) a sh).length) zf zt zw zm zh x0 y0 dx dy zz cu zo zu)), (zx, .inl (cI, 4096, .inl xs)), (zy, .inl (cI, 4096, .inl ys)), (zf, .inl (cI, 4096, .inl f3)), (zt, .inl (cI, 4096, .inl t3)), (zw, .inl (cI, 4096, .inl w3))] := hD
            have eg : jn_ xs ys (gsg_ xs ys L1 sh a (k - a)) (b - 1) a sh = gsh_ (kn sh) xs ys (SN sh) (PA sh) (PT sh) (sgl_ kn xs ys SN PA PT sh) sh (pz + 1) := by rw [gsh_, ← eL1, ← ea, ← eb, em]; unfold gpt_; rw [if_pos (show kn sh = 3 ∧ a < b from ⟨c5, q6⟩)]
            rw [eg] at hP hD hw3
            have hP : va_P g vwCl [(zk, .inl (cI, 2, .inl kn)), (za, .inl (cI, 2, .inl pa)), (zb, .inl (cI, 2050, .inl bg)), (zp, .inl (cI, 2, .inl pt)), (ma, .inr (6, mo_ th zk zp za zb zx zy (nI (gsh_ (kn sh) xs ys (SN sh) (PA sh) (PT sh) (sgl_ kn xs ys SN PA PT sh) sh (pz + 1)).length) zf zt zw zm zh x0 y0 dx dy zz cu zo zu)), (zx, .inl (cI, 4096, .inl xs)), (zy, .inl (cI, 4096, .inl ys)), (zf, .inl (cI, 4096, .inl f3)), (zt, .inl (cI, 4096, .inl t3)), (zw, .inl (cI, 4096, .inl w3))] H := hP
            have hD : va_D A [(zk, .inl (cI, 2, .inl kn)), (za, .inl (cI, 2, .inl pa)), (zb, .inl (cI, 2050, .inl bg)), (zp, .inl (cI, 2, .inl pt)), (ma, .inr (6, mo_ th zk zp za zb zx zy (nI (gsh_ (kn sh) xs ys (SN sh) (PA sh) (PT sh) (sgl_ kn xs ys SN PA PT sh) sh (pz + 1)).length) zf zt zw zm zh x0 y0 dx dy zz cu zo zu)), (zx, .inl (cI, 4096, .inl xs)), (zy, .inl (cI, 4096, .inl ys)), (zf, .inl (cI, 4096, .inl f3)), (zt, .inl (cI, 4096, .inl t3)), (zw, .inl (cI, 4096, .inl w3))] := hD
            refine lv_iinc (v := (nI (pz + 1))) (lv' := [(2, .int (nI (pz + 1))), (5, .int (nI k)), (4, .int (nI b)), (3, .int (nI a)), (1, .int (nI sh)), (0, .ref ma)]) hx hb dX6_gather_104 hl (k := 3) rfl (nI_1 pz) (by decide) rfl (fun ls hl => ?_)
            refine lv_goto (tgt := 14) hx hb dX6_gather_107 (by decide) ?_
            have ih := ihP
            exact ih (pz + 1, f3, t3, w3) (by show PA sh - (pz + 1) < PA sh - pz; omega) H locs ls ⟨⟨e2, hw3⟩, (hP.sub [4, 0, 1, 2, 3, 5, 6, 7, 8, 9] rfl), (hD.sub [4, 0, 1, 2, 3, 5, 6, 7, 8, 9] (by decide) rfl), hS, (lv_sub hl [0, 4, 5] rfl)⟩
      · have q3 : k + 1 < b := i_nge c3 (by omega) (by omega)
        refine lv_aload_n hx hb dX6_gather_51 rfl (lv_at hl 5 rfl) ?_
        refine va_get (D := g) (ci := 6) (v := .ref zk) (C := RX6) (T := TX6) (N := 21) hx hb hts hiX6 hown hK hP 6 rfl rfl 1 (by decide) (hts (.fieldLink RX6 7 "ShapeRelatorModel" "kinds" "[I") (List.mem_of_getElem? (i := 3) rfl)) (fun _ h9 => h9) rfl dX6_gather_52 ?_
        refine lv_iload_n hx hb dX6_gather_55 rfl (lv_at hl 4 rfl) ?_
        refine va_iald (D := g) hx hb hK hP 0 0 rfl rfl (vp_in_nI (show sh < 2 by omega) (by omega)) dX6_gather_56 ?_
        refine tpi_ (y := (kn sh)) (by rw [nI_clamp (by omega)]) ?_
        refine lv_iconst (v := 1) hx hb dX6_gather_57 (by decide) ?_
        refine lv_icmp_le (tgt := 78) hx hb dX6_gather_58 (by decide) (fun c4 => ?_) (fun c4 => ?_)
        · have em : gsg_ xs ys L1 sh a (k - a) = (if 1 < kn sh then gsg_ xs ys L1 sh a (b - 1 - a) else L1) := by rcases k3 with q | q; (· rw [q, Nat.sub_self, if_neg (Int32.not_lt.mpr c4)]; rfl); exact absurd q (Int32.not_lt.mpr c4)
          refine lv_aload_n hx hb dX6_gather_78 rfl (lv_at hl 5 rfl) ?_
          refine va_get (D := g) (ci := 6) (v := .ref zk) (C := RX6) (T := TX6) (N := 21) hx hb hts hiX6 hown hK hP 6 rfl rfl 1 (by decide) (hts (.fieldLink RX6 7 "ShapeRelatorModel" "kinds" "[I") (List.mem_of_getElem? (i := 3) rfl)) (fun _ h9 => h9) rfl dX6_gather_79 ?_
          refine lv_iload_n hx hb dX6_gather_82 rfl (lv_at hl 4 rfl) ?_
          refine va_iald (D := g) hx hb hK hP 0 0 rfl rfl (vp_in_nI (show sh < 2 by omega) (by omega)) dX6_gather_83 ?_
          refine tpi_ (y := (kn sh)) (by rw [nI_clamp (by omega)]) ?_
          refine lv_iconst (v := 3) hx hb dX6_gather_84 (by decide) ?_
          refine lv_icmp_ne (tgt := 104) hx hb dX6_gather_85 (by decide) (fun c5 => ?_) (fun c5 => ?_)
          · have eg : gsg_ xs ys L1 sh a (k - a) = gsh_ (kn sh) xs ys (SN sh) (PA sh) (PT sh) (sgl_ kn xs ys SN PA PT sh) sh (pz + 1) := by rw [gsh_, ← eL1, ← ea, ← eb, em]; unfold gpt_; rw [if_neg (show ¬(kn sh = 3 ∧ a < b) from fun h => c5 h.1)]
            rw [eg] at hP hD k4
            have hP : va_P g vwCl [(zk, .inl (cI, 2, .inl kn)), (zx, .inl (cI, 4096, .inl xs)), (zy, .inl (cI, 4096, .inl ys)), (zf, .inl (cI, 4096, .inl f2)), (zt, .inl (cI, 4096, .inl t2)), (zw, .inl (cI, 4096, .inl w2)), (ma, .inr (6, mo_ th zk zp za zb zx zy (nI (gsh_ (kn sh) xs ys (SN sh) (PA sh) (PT sh) (sgl_ kn xs ys SN PA PT sh) sh (pz + 1)).length) zf zt zw zm zh x0 y0 dx dy zz cu zo zu)), (za, .inl (cI, 2, .inl pa)), (zb, .inl (cI, 2050, .inl bg)), (zp, .inl (cI, 2, .inl pt))] H := hP
            have hD : va_D A [(zk, .inl (cI, 2, .inl kn)), (zx, .inl (cI, 4096, .inl xs)), (zy, .inl (cI, 4096, .inl ys)), (zf, .inl (cI, 4096, .inl f2)), (zt, .inl (cI, 4096, .inl t2)), (zw, .inl (cI, 4096, .inl w2)), (ma, .inr (6, mo_ th zk zp za zb zx zy (nI (gsh_ (kn sh) xs ys (SN sh) (PA sh) (PT sh) (sgl_ kn xs ys SN PA PT sh) sh (pz + 1)).length) zf zt zw zm zh x0 y0 dx dy zz cu zo zu)), (za, .inl (cI, 2, .inl pa)), (zb, .inl (cI, 2050, .inl bg)), (zp, .inl (cI, 2, .inl pt))] := hD
            refine lv_iinc (v := (nI (pz + 1))) (lv' := [(2, .int (nI (pz + 1))), (5, .int (nI k)), (4, .int (nI b)), (3, .int (nI a)), (1, .int (nI sh)), (0, .ref ma)]) hx hb dX6_gather_104 hl (k := 3) rfl (nI_1 pz) (by decide) rfl (fun ls hl => ?_)
            refine lv_goto (tgt := 14) hx hb dX6_gather_107 (by decide) ?_
            have ih := ihP
            exact ih (pz + 1, f2, t2, w2) (by show PA sh - (pz + 1) < PA sh - pz; omega) H locs ls ⟨⟨e2, k4⟩, (hP.sub [6, 0, 7, 8, 9, 1, 2, 3, 4, 5] rfl), (hD.sub [6, 0, 7, 8, 9, 1, 2, 3, 4, 5] (by decide) rfl), hS, (lv_sub hl [0, 4, 5] rfl)⟩
          · refine lv_iload hx hb dX6_gather_88 (lv_at hl 1 rfl) ?_
            refine lv_iload_n hx hb dX6_gather_90 rfl (lv_at hl 2 rfl) ?_
            refine lv_icmp_le (tgt := 104) hx hb dX6_gather_91 (by decide) (fun c6 => ?_) (fun c6 => ?_)
            · have q6 : b ≤ a := i_ge c6 (by omega) (by omega)
              have eg : gsg_ xs ys L1 sh a (k - a) = gsh_ (kn sh) xs ys (SN sh) (PA sh) (PT sh) (sgl_ kn xs ys SN PA PT sh) sh (pz + 1) := by rw [gsh_, ← eL1, ← ea, ← eb, em]; unfold gpt_; rw [if_neg (show ¬(kn sh = 3 ∧ a < b) from fun h => absurd h.2 (by omega))]
              rw [eg] at hP hD k4
              have hP : va_P g vwCl [(zk, .inl (cI, 2, .inl kn)), (zx, .inl (cI, 4096, .inl xs)), (zy, .inl (cI, 4096, .inl ys)), (zf, .inl (cI, 4096, .inl f2)), (zt, .inl (cI, 4096, .inl t2)), (zw, .inl (cI, 4096, .inl w2)), (ma, .inr (6, mo_ th zk zp za zb zx zy (nI (gsh_ (kn sh) xs ys (SN sh) (PA sh) (PT sh) (sgl_ kn xs ys SN PA PT sh) sh (pz + 1)).length) zf zt zw zm zh x0 y0 dx dy zz cu zo zu)), (za, .inl (cI, 2, .inl pa)), (zb, .inl (cI, 2050, .inl bg)), (zp, .inl (cI, 2, .inl pt))] H := hP
              have hD : va_D A [(zk, .inl (cI, 2, .inl kn)), (zx, .inl (cI, 4096, .inl xs)), (zy, .inl (cI, 4096, .inl ys)), (zf, .inl (cI, 4096, .inl f2)), (zt, .inl (cI, 4096, .inl t2)), (zw, .inl (cI, 4096, .inl w2)), (ma, .inr (6, mo_ th zk zp za zb zx zy (nI (gsh_ (kn sh) xs ys (SN sh) (PA sh) (PT sh) (sgl_ kn xs ys SN PA PT sh) sh (pz + 1)).length) zf zt zw zm zh x0 y0 dx dy zz cu zo zu)), (za, .inl (cI, 2, .inl pa)), (zb, .inl (cI, 2050, .inl bg)), (zp, .inl (cI, 2, .inl pt))] := hD
              refine lv_iinc (v := (nI (pz + 1))) (lv' := [(2, .int (nI (pz + 1))), (5, .int (nI k)), (4, .int (nI b)), (3, .int (nI a)), (1, .int (nI sh)), (0, .ref ma)]) hx hb dX6_gather_104 hl (k := 3) rfl (nI_1 pz) (by decide) rfl (fun ls hl => ?_)
              refine lv_goto (tgt := 14) hx hb dX6_gather_107 (by decide) ?_
              have ih := ihP
              exact ih (pz + 1, f2, t2, w2) (by show PA sh - (pz + 1) < PA sh - pz; omega) H locs ls ⟨⟨e2, k4⟩, (hP.sub [6, 0, 7, 8, 9, 1, 2, 3, 4, 5] rfl), (hD.sub [6, 0, 7, 8, 9, 1, 2, 3, 4, 5] (by decide) rfl), hS, (lv_sub hl [0, 4, 5] rfl)⟩
            · have q6 : a < b := i_nge c6 (by omega) (by omega)
              refine lv_aload_n hx hb dX6_gather_94 rfl (lv_at hl 5 rfl) ?_
              refine lv_iload_n hx hb dX6_gather_95 rfl (lv_at hl 4 rfl) ?_
              refine lv_iload hx hb dX6_gather_96 (lv_at hl 1 rfl) ?_
              refine lv_iconst (v := 1) hx hb dX6_gather_98 (by decide) ?_
              refine lv_isub hx hb dX6_gather_99 ?_
              refine tpi_ (y := (nI (b - 1))) ((pk_sub (a := b) (b := 1) (by omega)).symm) ?_
              refine lv_iload_n hx hb dX6_gather_100 rfl (lv_at hl 2 rfl) ?_
              have hPc := hP.sub (ws' := [(ma, .inr (6, mo_ th zk zp za zb zx zy (nI (gsg_ xs ys L1 sh a (k - a)).length) zf zt zw zm zh x0 y0 dx dy zz cu zo zu)), (zx, .inl (cI, 4096, .inl xs)), (zy, .inl (cI, 4096, .inl ys)), (zf, .inl (cI, 4096, .inl f2)), (zt, .inl (cI, 4096, .inl t2)), (zw, .inl (cI, 4096, .inl w2))]) [6, 1, 2, 3, 4, 5] rfl
              have hDc := hD.sub (ws' := [(ma, .inr (6, mo_ th zk zp za zb zx zy (nI (gsg_ xs ys L1 sh a (k - a)).length) zf zt zw zm zh x0 y0 dx dy zz cu zo zu)), (zx, .inl (cI, 4096, .inl xs)), (zy, .inl (cI, 4096, .inl ys)), (zf, .inl (cI, 4096, .inl f2)), (zt, .inl (cI, 4096, .inl t2)), (zw, .inl (cI, 4096, .inl w2))]) [6, 1, 2, 3, 4, 5] (by decide) rfl
              have hFc := va_free (wc := [(ma, .inr (6, mo_ th zk zp za zb zx zy (nI (gsg_ xs ys L1 sh a (k - a)).length) zf zt zw zm zh x0 y0 dx dy zz cu zo zu)), (zx, .inl (cI, 4096, .inl xs)), (zy, .inl (cI, 4096, .inl ys)), (zf, .inl (cI, 4096, .inl f2)), (zt, .inl (cI, 4096, .inl t2)), (zw, .inl (cI, 4096, .inl w2))]) hD hS hA [6, 1, 2, 3, 4, 5] rfl
              refine va_callv (va_runV (As := [.int (nI sh), .int (nI (b - 1)), .int (nI a)]) (rest := []) ⟨hx, hb, hml, hown, hts⟩ (kX6_join l g cI cJ cZ H.size ma th x0 y0 dx dy cu zk zp za zb zx zy zf zt zw zm zh zz zo zu xs ys f2 t2 w2 (gsg_ xs ys L1 sh a (k - a)) sh (b - 1) a (by omega) (by omega) (by omega) k4) (cwV 3 hts gX6_gather_X6_join rfl rfl rfl (by decide +kernel) ⟨Nat.le_of_ble_eq_true rfl, Nat.le_of_ble_eq_true rfl⟩) (pv_ hK hPc hDc (va_recv hK hPc (ci := 6) (q0 := 0) rfl rfl)) rfl rfl hl.1 rfl (lv_room (Nat.le_of_ble_eq_true rfl)) dX6_gather_101 ⟨Nat.zero_le _, Nat.zero_le _⟩) hS (fun q _ h => hFc q h) hFc (fun u t H1 locs ht hvm hw3 hB hz1 hk1 hS => ?_)
              obtain ⟨f3, t3, w3⟩ := u
              obtain ⟨hP1, hK1, hD1⟩ := hB
              rw [ht] at hP1
              dsimp only at hw3
              obtain ⟨hP, hD⟩ := va_join (wr := [(zk, .inl (cI, 2, .inl kn)), (za, .inl (cI, 2, .inl pa)), (zb, .inl (cI, 2050, .inl bg)), (zp, .inl (cI, 2, .inl pt))]) (w1 := [(ma, .inr (6, mo_ th zk zp za zb zx zy (nI (jn_ xs ys (gsg_ xs ys L1 sh a (k - a)) (b - 1) a sh).length) zf zt zw zm zh x0 y0 dx dy zz cu zo zu)), (zx, .inl (cI, 4096, .inl xs)), (zy, .inl (cI, 4096, .inl ys)), (zf, .inl (cI, 4096, .inl f3)), (zt, .inl (cI, 4096, .inl t3)), (zw, .inl (cI, 4096, .inl w3))]) hP hD [6, 1, 2, 3, 4, 5] [0, 7, 8, 9] rfl rfl (by decide) (by decide) hk1 hFc hP1 hD1
              clear hPc hDc hFc hP1 hD1 hK1 hk1 hz1 hvm ht
              generalize H1 = H at hP hS ⊢
              have hP : va_P g vwCl [(zk, .inl (cI, 2, .inl kn)), (za, .inl (cI, 2, .inl pa)), (zb, .inl (cI, 2050, .inl bg)), (zp, .inl (cI, 2, .inl pt)), (ma, .inr (6, mo_ th zk zp za zb zx zy (nI (jn_ xs ys (gsg_ xs ys L1 sh a (k - a)) (b - 1) a sh).length) zf zt zw zm zh x0 y0 dx dy zz cu zo zu)), (zx, .inl (cI, 4096, .inl xs)), (zy, .inl (cI, 4096, .inl ys)), (zf, .inl (cI, 4096, .inl f3)), (zt, .inl (cI, 4096, .inl t3)), (zw, .inl (cI, 4096, .inl w3))] H := hP
              have hD : va_D A [(zk, .inl (cI, 2, .inl kn)), (za, .inl (cI, 2, .inl pa)), (zb, .inl (cI, 2050, .inl bg)), (zp, .inl (cI, 2, .inl pt)), (ma, .inr (6, mo_ th zk zp za zb zx zy (nI (jn_ xs ys (gsg_ xs ys L1 sh a (k - a)) (b - 1) a sh).length) zf zt zw zm zh x0 y0 dx dy zz cu zo zu)), (zx, .inl (cI, 4096, .inl xs)), (zy, .inl (cI, 4096, .inl ys)), (zf, .inl (cI, 4096, .inl f3)), (zt, .inl (cI, 4096, .inl t3)), (zw, .inl (cI, 4096, .inl w3))] := hD
              have eg : jn_ xs ys (gsg_ xs ys L1 sh a (k - a)) (b - 1) a sh = gsh_ (kn sh) xs ys (SN sh) (PA sh) (PT sh) (sgl_ kn xs ys SN PA PT sh) sh (pz + 1) := by rw [gsh_, ← eL1, ← ea, ← eb, em]; unfold gpt_; rw [if_pos (show kn sh = 3 ∧ a < b from ⟨c5, q6⟩)]
              rw [eg] at hP hD hw3
              have hP : va_P g vwCl [(zk, .inl (cI, 2, .inl kn)), (za, .inl (cI, 2, .inl pa)), (zb, .inl (cI, 2050, .inl bg)), (zp, .inl (cI, 2, .inl pt)), (ma, .inr (6, mo_ th zk zp za zb zx zy (nI (gsh_ (kn sh) xs ys (SN sh) (PA sh) (PT sh) (sgl_ kn xs ys SN PA PT sh) sh (pz + 1)).length) zf zt zw zm zh x0 y0 dx dy zz cu zo zu)), (zx, .inl (cI, 4096, .inl xs)), (zy, .inl (cI, 4096, .inl ys)), (zf, .inl (cI, 4096, .inl f3)), (zt, .inl (cI, 4096, .inl t3)), (zw, .inl (cI, 4096, .inl w3))] H := hP
              have hD : va_D A [(zk, .inl (cI, 2, .inl kn)), (za, .inl (cI, 2, .inl pa)), (zb, .inl (cI, 2050, .inl bg)), (zp, .inl (cI, 2, .inl pt)), (ma, .inr (6, mo_ th zk zp za zb zx zy (nI (gsh_ (kn sh) xs ys (SN sh) (PA sh) (PT sh) (sgl_ kn xs ys SN PA PT sh) sh (pz + 1)).length) zf zt zw zm zh x0 y0 dx dy zz cu zo zu)), (zx, .inl (cI, 4096, .inl xs)), (zy, .inl (cI, 4096, .inl ys)), (zf, .inl (cI, 4096, .inl f3)), (zt, .inl (cI, 4096, .inl t3)), (zw, .inl (cI, 4096, .inl w3))] := hD
              refine lv_iinc (v := (nI (pz + 1))) (lv' := [(2, .int (nI (pz + 1))), (5, .int (nI k)), (4, .int (nI b)), (3, .int (nI a)), (1, .int (nI sh)), (0, .ref ma)]) hx hb dX6_gather_104 hl (k := 3) rfl (nI_1 pz) (by decide) rfl (fun ls hl => ?_)
              refine lv_goto (tgt := 14) hx hb dX6_gather_107 (by decide) ?_
              have ih := ihP
              exact ih (pz + 1, f3, t3, w3) (by show PA sh - (pz + 1) < PA sh - pz; omega) H locs ls ⟨⟨e2, hw3⟩, (hP.sub [4, 0, 1, 2, 3, 5, 6, 7, 8, 9] rfl), (hD.sub [4, 0, 1, 2, 3, 5, 6, 7, 8, 9] (by decide) rfl), hS, (lv_sub hl [0, 4, 5] rfl)⟩
        · have q4 : 1 < kn sh := Int32.not_le.mp c4
          refine lv_aload_n hx hb dX6_gather_61 rfl (lv_at hl 5 rfl) ?_
          refine lv_iload_n hx hb dX6_gather_62 rfl (lv_at hl 4 rfl) ?_
          refine lv_iload hx hb dX6_gather_63 (lv_at hl 0 rfl) ?_
          refine lv_iload hx hb dX6_gather_65 (lv_at hl 0 rfl) ?_
          refine lv_iconst (v := 1) hx hb dX6_gather_67 (by decide) ?_
          refine lv_iadd hx hb dX6_gather_68 ?_
          refine tpi_ (y := (nI (k + 1))) ((nI_1 k).symm) ?_
          have hPc := hP.sub (ws' := [(ma, .inr (6, mo_ th zk zp za zb zx zy (nI (gsg_ xs ys L1 sh a (k - a)).length) zf zt zw zm zh x0 y0 dx dy zz cu zo zu)), (zx, .inl (cI, 4096, .inl xs)), (zy, .inl (cI, 4096, .inl ys)), (zf, .inl (cI, 4096, .inl f2)), (zt, .inl (cI, 4096, .inl t2)), (zw, .inl (cI, 4096, .inl w2))]) [6, 1, 2, 3, 4, 5] rfl
          have hDc := hD.sub (ws' := [(ma, .inr (6, mo_ th zk zp za zb zx zy (nI (gsg_ xs ys L1 sh a (k - a)).length) zf zt zw zm zh x0 y0 dx dy zz cu zo zu)), (zx, .inl (cI, 4096, .inl xs)), (zy, .inl (cI, 4096, .inl ys)), (zf, .inl (cI, 4096, .inl f2)), (zt, .inl (cI, 4096, .inl t2)), (zw, .inl (cI, 4096, .inl w2))]) [6, 1, 2, 3, 4, 5] (by decide) rfl
          have hFc := va_free (wc := [(ma, .inr (6, mo_ th zk zp za zb zx zy (nI (gsg_ xs ys L1 sh a (k - a)).length) zf zt zw zm zh x0 y0 dx dy zz cu zo zu)), (zx, .inl (cI, 4096, .inl xs)), (zy, .inl (cI, 4096, .inl ys)), (zf, .inl (cI, 4096, .inl f2)), (zt, .inl (cI, 4096, .inl t2)), (zw, .inl (cI, 4096, .inl w2))]) hD hS hA [6, 1, 2, 3, 4, 5] rfl
          refine va_callv (va_runV (As := [.int (nI sh), .int (nI k), .int (nI (k + 1))]) (rest := []) ⟨hx, hb, hml, hown, hts⟩ (kX6_join l g cI cJ cZ H.size ma th x0 y0 dx dy cu zk zp za zb zx zy zf zt zw zm zh zz zo zu xs ys f2 t2 w2 (gsg_ xs ys L1 sh a (k - a)) sh k (k + 1) (by omega) (by omega) (by omega) k4) (cwV 3 hts gX6_gather_X6_join rfl rfl rfl (by decide +kernel) ⟨Nat.le_of_ble_eq_true rfl, Nat.le_of_ble_eq_true rfl⟩) (pv_ hK hPc hDc (va_recv hK hPc (ci := 6) (q0 := 0) rfl rfl)) rfl rfl hl.1 rfl (lv_room (Nat.le_of_ble_eq_true rfl)) dX6_gather_69 ⟨Nat.zero_le _, Nat.zero_le _⟩) hS (fun q _ h => hFc q h) hFc (fun u t H1 locs ht hvm hw3 hB hz1 hk1 hS => ?_)
          obtain ⟨f3, t3, w3⟩ := u
          obtain ⟨hP1, hK1, hD1⟩ := hB
          rw [ht] at hP1
          dsimp only at hw3
          obtain ⟨hP, hD⟩ := va_join (wr := [(zk, .inl (cI, 2, .inl kn)), (za, .inl (cI, 2, .inl pa)), (zb, .inl (cI, 2050, .inl bg)), (zp, .inl (cI, 2, .inl pt))]) (w1 := [(ma, .inr (6, mo_ th zk zp za zb zx zy (nI (jn_ xs ys (gsg_ xs ys L1 sh a (k - a)) k (k + 1) sh).length) zf zt zw zm zh x0 y0 dx dy zz cu zo zu)), (zx, .inl (cI, 4096, .inl xs)), (zy, .inl (cI, 4096, .inl ys)), (zf, .inl (cI, 4096, .inl f3)), (zt, .inl (cI, 4096, .inl t3)), (zw, .inl (cI, 4096, .inl w3))]) hP hD [6, 1, 2, 3, 4, 5] [0, 7, 8, 9] rfl rfl (by decide) (by decide) hk1 hFc hP1 hD1
          clear hPc hDc hFc hP1 hD1 hK1 hk1 hz1 hvm ht
          generalize H1 = H at hP hS ⊢
          have hP : va_P g vwCl [(zk, .inl (cI, 2, .inl kn)), (za, .inl (cI, 2, .inl pa)), (zb, .inl (cI, 2050, .inl bg)), (zp, .inl (cI, 2, .inl pt)), (ma, .inr (6, mo_ th zk zp za zb zx zy (nI (jn_ xs ys (gsg_ xs ys L1 sh a (k - a)) k (k + 1) sh).length) zf zt zw zm zh x0 y0 dx dy zz cu zo zu)), (zx, .inl (cI, 4096, .inl xs)), (zy, .inl (cI, 4096, .inl ys)), (zf, .inl (cI, 4096, .inl f3)), (zt, .inl (cI, 4096, .inl t3)), (zw, .inl (cI, 4096, .inl w3))] H := hP
          have hD : va_D A [(zk, .inl (cI, 2, .inl kn)), (za, .inl (cI, 2, .inl pa)), (zb, .inl (cI, 2050, .inl bg)), (zp, .inl (cI, 2, .inl pt)), (ma, .inr (6, mo_ th zk zp za zb zx zy (nI (jn_ xs ys (gsg_ xs ys L1 sh a (k - a)) k (k + 1) sh).length) zf zt zw zm zh x0 y0 dx dy zz cu zo zu)), (zx, .inl (cI, 4096, .inl xs)), (zy, .inl (cI, 4096, .inl ys)), (zf, .inl (cI, 4096, .inl f3)), (zt, .inl (cI, 4096, .inl t3)), (zw, .inl (cI, 4096, .inl w3))] := hD
          have eg : jn_ xs ys (gsg_ xs ys L1 sh a (k - a)) k (k + 1) sh = gsg_ xs ys L1 sh a (k + 1 - a) := by rw [show k + 1 - a = (k - a) + 1 by omega, gsg_, show a + (k - a) = k by omega]
          rw [eg] at hP hD hw3
          have hP : va_P g vwCl [(zk, .inl (cI, 2, .inl kn)), (za, .inl (cI, 2, .inl pa)), (zb, .inl (cI, 2050, .inl bg)), (zp, .inl (cI, 2, .inl pt)), (ma, .inr (6, mo_ th zk zp za zb zx zy (nI (gsg_ xs ys L1 sh a (k + 1 - a)).length) zf zt zw zm zh x0 y0 dx dy zz cu zo zu)), (zx, .inl (cI, 4096, .inl xs)), (zy, .inl (cI, 4096, .inl ys)), (zf, .inl (cI, 4096, .inl f3)), (zt, .inl (cI, 4096, .inl t3)), (zw, .inl (cI, 4096, .inl w3))] H := hP
          have hD : va_D A [(zk, .inl (cI, 2, .inl kn)), (za, .inl (cI, 2, .inl pa)), (zb, .inl (cI, 2050, .inl bg)), (zp, .inl (cI, 2, .inl pt)), (ma, .inr (6, mo_ th zk zp za zb zx zy (nI (gsg_ xs ys L1 sh a (k + 1 - a)).length) zf zt zw zm zh x0 y0 dx dy zz cu zo zu)), (zx, .inl (cI, 4096, .inl xs)), (zy, .inl (cI, 4096, .inl ys)), (zf, .inl (cI, 4096, .inl f3)), (zt, .inl (cI, 4096, .inl t3)), (zw, .inl (cI, 4096, .inl w3))] := hD
          refine lv_iinc (v := (nI (k + 1))) (lv' := [(5, .int (nI (k + 1))), (4, .int (nI b)), (3, .int (nI a)), (2, .int (nI pz)), (1, .int (nI sh)), (0, .ref ma)]) hx hb dX6_gather_72 hl (k := 0) rfl (nI_1 k) (by decide) rfl (fun ls hl => ?_)
          refine lv_goto (tgt := 42) hx hb dX6_gather_75 (by decide) ?_
          exact ih (k + 1, f3, t3, w3) (by show b + 1 - (k + 1) < b + 1 - k; omega) H locs ls ⟨⟨by omega, by omega, Or.inr q4, hw3⟩, (hP.sub [0, 5, 6, 7, 8, 9, 4, 1, 2, 3] rfl), (hD.sub [0, 5, 6, 7, 8, 9, 4, 1, 2, 3] (by decide) rfl), hS, (lv_sub hl [0, 1, 2, 3, 4, 5] rfl)⟩
end
