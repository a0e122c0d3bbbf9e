section
theorem ikX6_hasSegments_X6 : ∀ w ∈ wsX60, w ∈ wsX6_hasSegments := by decide +kernel
set_option maxHeartbeats 1000000 in
set_option maxRecDepth 100000 in
theorem kX6_hasSegments (l : Launch) (g : va_G) (cI cJ cZ : ClassId) (sz : Nat) (ma : Nat) (th : Int32) (x0 : Int64) (y0 : Int64) (dx : Int64) (dy : Int64) (cu : Int32) (zk : Nat) (zp : Nat) (za : Nat) (zb : Nat) (zx : Nat) (zy : Nat) (zf : Nat) (zt : Nat) (zw : Nat) (zm : Nat) (zh : Nat) (zz : Nat) (zo : Nat) (zu : Nat) (fr : Nat → Int32) (to1 : Nat → Int32) (wh : Nat → Int32) (ms : List (Nat × Nat × Nat)) (sh : Nat) (hs : sh < 2) (hl1 : ms.length ≤ 4096) (hm3 : ml3_ fr to1 wh ms) (hmb : ∀ q ∈ ms, q.1 < 4096 ∧ q.2.1 < 4096 ∧ q.2.2 < 2) : Met l yX6_hasSegments wsX6_hasSegments ({ frames := 0, cells := 0, slots := 0, locals := 0 }) (pc_ g cI cJ cZ [.ref ma, .int (nI sh)] [(ma, .inr (6, mo_ th zk zp za zb zx zy (nI ms.length) zf zt zw zm zh x0 y0 dx dy zz cu zo zu)), (zw, .inl (cI, 4096, .inl wh))] sz) (va_Qi (fun (r : Int32) (_ : Unit) => r = hsg_ ms sh) (fun (_ : Unit) t => wd_ g cI cJ cZ (va_A [(ma, .inr (6, mo_ th zk zp za zb zx zy (nI ms.length) zf zt zw zm zh x0 y0 dx dy zz cu zo zu)), (zw, .inl (cI, 4096, .inl wh))] sz) [(ma, .inr (6, mo_ th zk zp za zb zx zy (nI ms.length) zf zt zw zm zh x0 y0 dx dy zz cu zo zu)), (zw, .inl (cI, 4096, .inl wh))] t) (va_A [(ma, .inr (6, mo_ th zk zp za zb zx zy (nI ms.length) zf zt zw zm zh x0 y0 dx dy zz cu zo zu)), (zw, .inl (cI, 4096, .inl wh))] sz)) (0) (0) (va_A [(ma, .inr (6, mo_ th zk zp za zb zx zy (nI ms.length) zf zt zw zm zh x0 y0 dx dy zz cu zo zu)), (zw, .inl (cI, 4096, .inl wh))] sz) := by
  refine Met.ofW (cc := cX6_hasSegments) (maxL := 4) (ret := (some .boolean)) (by decide) rfl ?_
  intro p e s m args below meth c s₁ B hml hv
  obtain ⟨rfl, hsz, hP, hK, hD0⟩ := hv
  have hx := B.exec
  have hb := B.bytes
  have hr := B.returns
  have hts := atoms_spec (ws := wsX6_hasSegments) B.pre
  have hown : s.vm.findClass RX6 = some m.cls := findClass_of_methodNamed B.named
  have hlocks := B.notSynchronized
  subst hsz
  have hD := hD0.self (sz := s.heap.size)
  generalize hAe : va_A [(ma, .inr (6, mo_ th zk zp za zb zx zy (nI ms.length) zf zt zw zm zh x0 y0 dx dy zz cu zo zu)), (zw, .inl (cI, 4096, .inl wh))] s.heap.size = A at hD ⊢
  have hA : ∀ q : Nat, s.heap.size ≤ q → A q := fun q h => by rw [← hAe]; exact Or.inr h
  have hS : va_S A s.heap s.heap [] := va_S.rf
  have hP : va_P g vwCl [(ma, .inr (6, mo_ th zk zp za zb zx zy (nI ms.length) zf zt zw zm zh x0 y0 dx dy zz cu zo zu)), (zw, .inl (cI, 4096, .inl wh))] s.heap := hP
  have hl := lv_entry ([.ref ma, .int (nI sh)]) (n := 4) (Nat.le_of_ble_eq_true rfl)
  rw [lg_entry_eq]
  generalize (lg_sl ([.ref ma, .int (nI sh)]) ++ List.replicate (4 - (lg_sl ([.ref ma, .int (nI sh)])).length) Slot.unset).toArray = ls at hl ⊢
  have hl : lv_has ls 4 [(0, .ref ma), (1, .int (nI sh))] := hl
  have hH0 : s.heap = s.heap := rfl
  have hiX6 := ikX6_hasSegments_X6
  refine lv_iconst (v := 0) hx hb dX6_hasSegments_0 (by decide) ?_
  refine tpi_ (y := (hsg_ (ms.take 0) sh)) (by unfold hsg_ bo_; rw [if_neg (by simp)]) ?_
  refine lv_istore_n (lv' := [(2, .int (hsg_ (ms.take 0) sh)), (0, .ref ma), (1, .int (nI sh))]) hx hb dX6_hasSegments_1 rfl hl (by decide) rfl (fun ls hl => ?_)
  refine lv_iconst (v := 0) hx hb dX6_hasSegments_2 (by decide) ?_
  refine lv_istore_n (lv' := [(3, .int 0), (2, .int (hsg_ (ms.take 0) sh)), (0, .ref ma), (1, .int (nI sh))]) hx hb dX6_hasSegments_3 rfl hl (by decide) rfl (fun ls hl => ?_)
  refine lpW (σ := Nat) (fun k => ms.length - k) (fun k => 0) (fun k => 0) (fun k H locs ls => (k ≤ ms.length) ∧ va_P g vwCl [(ma, .inr (6, mo_ th zk zp za zb zx zy (nI ms.length) zf zt zw zm zh x0 y0 dx dy zz cu zo zu)), (zw, .inl (cI, 4096, .inl wh))] H ∧ va_D A [(ma, .inr (6, mo_ th zk zp za zb zx zy (nI ms.length) zf zt zw zm zh x0 y0 dx dy zz cu zo zu)), (zw, .inl (cI, 4096, .inl wh))] ∧ va_S A s.heap H locs ∧ lv_has ls 4 [(3, .int (nI k)), (2, .int (hsg_ (ms.take k) sh)), (0, .ref ma), (1, .int (nI sh))]) (fun x ih H locs ls hI => ?_) 0 rfl rfl ⟨Nat.zero_le _, hP, hD, hS, (lv_sub hl [0, 1, 2, 3] rfl)⟩
  obtain ⟨k, rfl⟩ : ∃ z, z = x := ⟨_, rfl⟩
  obtain ⟨hi, hP, hD, hS, hl⟩ := hI
  have hP : va_P g vwCl [(ma, .inr (6, mo_ th zk zp za zb zx zy (nI ms.length) zf zt zw zm zh x0 y0 dx dy zz cu zo zu)), (zw, .inl (cI, 4096, .inl wh))] H := hP
  have hD : va_D A [(ma, .inr (6, mo_ th zk zp za zb zx zy (nI ms.length) zf zt zw zm zh x0 y0 dx dy zz cu zo zu)), (zw, .inl (cI, 4096, .inl wh))] := hD
  have hl : lv_has ls 4 [(3, .int (nI k)), (2, .int (hsg_ (ms.take k) sh)), (0, .ref ma), (1, .int (nI sh))] := hl
  refine lv_iload_n hx hb dX6_hasSegments_4 rfl (lv_at hl 0 rfl) ?_
  refine lv_aload_n hx hb dX6_hasSegments_5 rfl (lv_at hl 2 rfl) ?_
  refine va_get (D := g) (ci := 6) (v := .int (nI ms.length)) (C := RX6) (T := TX6) (N := 21) hx hb hts hiX6 hown hK hP 0 rfl rfl 7 (by decide) (hts (.fieldLink RX6 79 "ShapeRelatorModel" "segments" "I") (List.mem_of_getElem? (i := 1) rfl)) (fun _ h9 => h9) rfl dX6_hasSegments_6 ?_
  refine lv_icmp_ge (tgt := 38) hx hb dX6_hasSegments_9 (by decide) (fun c1 => ?_) (fun c1 => ?_)
  · have e1 : k = ms.length := by have := i_ge c1 (by omega) (by omega); omega
    refine lv_iload_n hx hb dX6_hasSegments_38 rfl (lv_at hl 1 rfl) ?_
    have hP9 := hP.sub (ws' := [(ma, .inr (6, mo_ th zk zp za zb zx zy (nI ms.length) zf zt zw zm zh x0 y0 dx dy zz cu zo zu)), (zw, .inl (cI, 4096, .inl wh))]) [0, 1] rfl
    have hD9 := hD.sub (ws' := [(ma, .inr (6, mo_ th zk zp za zb zx zy (nI ms.length) zf zt zw zm zh x0 y0 dx dy zz cu zo zu)), (zw, .inl (cI, 4096, .inl wh))]) [0, 1] (by decide) rfl
    exact W.zret (v := (hsg_ (ms.take k) sh)) (ty := .boolean) hx hb hr hsg_z (fun t ht hW => ⟨⟨hsg_ (ms.take k) sh, (), rfl, by rw [e1, List.take_length], by rw [ht]; exact hP9, va_K.moved hW.alike hK, hD9⟩, hS.F ht⟩) hS.2.2 dX6_hasSegments_39
  · have e1 : k < ms.length := i_nge c1 (by omega) (by omega)
    have e2 := hm3 k e1
    have e3 := hmb _ (m3_m e1)
    refine lv_iload_n hx hb dX6_hasSegments_12 rfl (lv_at hl 1 rfl) ?_
    refine lv_if_ne (tgt := 26) hx hb dX6_hasSegments_13 (by decide) (fun c2 => ?_) (fun c2 => ?_)
    · refine lv_iconst (v := 1) hx hb dX6_hasSegments_26 (by decide) ?_
      refine lv_goto (tgt := 31) hx hb dX6_hasSegments_27 (by decide) ?_
      refine tpi_ (y := (hsg_ (ms.take (k + 1)) sh)) ((hsg_1 e1 c2).symm) ?_
      refine lv_istore_n (lv' := [(2, .int (hsg_ (ms.take (k + 1)) sh)), (3, .int (nI k)), (0, .ref ma), (1, .int (nI sh))]) hx hb dX6_hasSegments_31 rfl hl (by decide) rfl (fun ls hl => ?_)
      refine lv_iinc (v := (nI (k + 1))) (lv' := [(3, .int (nI (k + 1))), (2, .int (hsg_ (ms.take (k + 1)) sh)), (0, .ref ma), (1, .int (nI sh))]) hx hb dX6_hasSegments_32 hl (k := 1) rfl (nI_1 k) (by decide) rfl (fun ls hl => ?_)
      refine lv_goto (tgt := 4) hx hb dX6_hasSegments_35 (by decide) ?_
      exact ih (k + 1) (by show ms.length - (k + 1) < ms.length - k; omega) H locs ls ⟨e1, hP, hD, hS, (lv_sub hl [0, 1, 2, 3] rfl)⟩
    · refine lv_aload_n hx hb dX6_hasSegments_16 rfl (lv_at hl 2 rfl) ?_
      refine va_get (D := g) (ci := 6) (v := .ref zw) (C := RX6) (T := TX6) (N := 21) hx hb hts hiX6 hown hK hP 0 rfl rfl 10 (by decide) (hts (.fieldLink RX6 34 "ShapeRelatorModel" "whose" "[I") (List.mem_of_getElem? (i := 2) rfl)) (fun _ h9 => h9) rfl dX6_hasSegments_17 ?_
      refine lv_iload_n hx hb dX6_hasSegments_20 rfl (lv_at hl 0 rfl) ?_
      refine va_iald (D := g) hx hb hK hP 1 0 rfl rfl (vp_in_nI (show k < 4096 by omega) (by omega)) dX6_hasSegments_21 ?_
      refine tpi_ (y := (nI (ms.getD k (0, 0, 0)).2.2)) (by rw [nI_clamp (by omega), e2.2.2]) ?_
      refine lv_iload_n hx hb dX6_hasSegments_22 rfl (lv_at hl 3 rfl) ?_
      refine lv_icmp_ne (tgt := 30) hx hb dX6_hasSegments_23 (by decide) (fun c3 => ?_) (fun c3 => ?_)
      · refine lv_iconst (v := 0) hx hb dX6_hasSegments_30 (by decide) ?_
        refine tpi_ (y := (hsg_ (ms.take (k + 1)) sh)) ((hsg_n e1 c2 (fun h => c3 (by rw [h]))).symm) ?_
        refine lv_istore_n (lv' := [(2, .int (hsg_ (ms.take (k + 1)) sh)), (3, .int (nI k)), (0, .ref ma), (1, .int (nI sh))]) hx hb dX6_hasSegments_31 rfl hl (by decide) rfl (fun ls hl => ?_)
        refine lv_iinc (v := (nI (k + 1))) (lv' := [(3, .int (nI (k + 1))), (2, .int (hsg_ (ms.take (k + 1)) sh)), (0, .ref ma), (1, .int (nI sh))]) hx hb dX6_hasSegments_32 hl (k := 1) rfl (nI_1 k) (by decide) rfl (fun ls hl => ?_)
        refine lv_goto (tgt := 4) hx hb dX6_hasSegments_35 (by decide) ?_
        exact ih (k + 1) (by show ms.length - (k + 1) < ms.length - k; omega) H locs ls ⟨e1, hP, hD, hS, (lv_sub hl [0, 1, 2, 3] rfl)⟩
      · refine lv_iconst (v := 1) hx hb dX6_hasSegments_26 (by decide) ?_
        refine lv_goto (tgt := 31) hx hb dX6_hasSegments_27 (by decide) ?_
        refine tpi_ (y := (hsg_ (ms.take (k + 1)) sh)) ((hsg_y e1 ((nI_eq (by omega) (by omega)).mp c3)).symm) ?_
        refine lv_istore_n (lv' := [(2, .int (hsg_ (ms.take (k + 1)) sh)), (3, .int (nI k)), (0, .ref ma), (1, .int (nI sh))]) hx hb dX6_hasSegments_31 rfl hl (by decide) rfl (fun ls hl => ?_)
        refine lv_iinc (v := (nI (k + 1))) (lv' := [(3, .int (nI (k + 1))), (2, .int (hsg_ (ms.take (k + 1)) sh)), (0, .ref ma), (1, .int (nI sh))]) hx hb dX6_hasSegments_32 hl (k := 1) rfl (nI_1 k) (by decide) rfl (fun ls hl => ?_)
        refine lv_goto (tgt := 4) hx hb dX6_hasSegments_35 (by decide) ?_
        exact ih (k + 1) (by show ms.length - (k + 1) < ms.length - k; omega) H locs ls ⟨e1, hP, hD, hS, (lv_sub hl [0, 1, 2, 3] rfl)⟩

theorem ikX6_insideOf_X6 : ∀ w ∈ wsX60, w ∈ wsX6_insideOf := by decide +kernel
set_option maxHeartbeats 1000000 in
set_option maxRecDepth 100000 in
theorem kX6_insideOf (l : Launch) (g : va_G) (cI cJ cZ : ClassId) (sz : Nat) (ma : Nat) (th : Int32) (x0 : Int64) (y0 : Int64) (dx : Int64) (dy : Int64) (cu : Int32) (zk : Nat) (zp : Nat) (za : Nat) (zb : Nat) (zx : Nat) (zy : Nat) (zf : Nat) (zt : Nat) (zw : Nat) (zm : Nat) (zh : Nat) (zz : Nat) (zo : Nat) (zu : Nat) (fr : Nat → Int32) (to1 : Nat → Int32) (wh : Nat → Int32) (kn : Nat → Int32) (pt : Nat → Int32) (ha : Nat → Int32) (ms : List (Nat × Nat × Nat)) (sh : Nat) (np : Nat) (hs : sh < 2) (hl1 : ms.length ≤ 4096) (hm3 : ml3_ fr to1 wh ms) (hmb : ∀ q ∈ ms, q.1 < 4096 ∧ q.2.1 < 4096 ∧ q.2.2 < 2) (h1 : pt sh = nI np) (h2 : np ≤ 2048) : Met l yX6_insideOf wsX6_insideOf ({ frames := 1, cells := 0, slots := 0, locals := 23 }) (pc_ g cI cJ cZ [.ref ma, .int (nI sh)] [(ma, .inr (6, mo_ th zk zp za zb zx zy (nI ms.length) zf zt zw zm zh x0 y0 dx dy zz cu zo zu)), (zw, .inl (cI, 4096, .inl wh)), (zk, .inl (cI, 2, .inl kn)), (zp, .inl (cI, 2, .inl pt)), (zh, .inl (cZ, 2, .inl ha))] sz) (va_Qi (fun (r : Int32) (_ : Unit) => r = ino_ (kn sh) np ms sh (ha sh)) (fun (_ : Unit) t => wd_ g cI cJ cZ (va_A [(ma, .inr (6, mo_ th zk zp za zb zx zy (nI ms.length) zf zt zw zm zh x0 y0 dx dy zz cu zo zu)), (zw, .inl (cI, 4096, .inl wh)), (zk, .inl (cI, 2, .inl kn)), (zp, .inl (cI, 2, .inl pt)), (zh, .inl (cZ, 2, .inl ha))] sz) [(ma, .inr (6, mo_ th zk zp za zb zx zy (nI ms.length) zf zt zw zm zh x0 y0 dx dy zz cu zo zu)), (zw, .inl (cI, 4096, .inl wh)), (zk, .inl (cI, 2, .inl kn)), (zp, .inl (cI, 2, .inl pt)), (zh, .inl (cZ, 2, .inl ha))] t) (va_A [(ma, .inr (6, mo_ th zk zp za zb zx zy (nI ms.length) zf zt zw zm zh x0 y0 dx dy zz cu zo zu)), (zw, .inl (cI, 4096, .inl wh)), (zk, .inl (cI, 2, .inl kn)), (zp, .inl (cI, 2, .inl pt)), (zh, .inl (cZ, 2, .inl ha))] sz)) (0) (0) (va_A [(ma, .inr (6, mo_ th zk zp za zb zx zy (nI ms.length) zf zt zw zm zh x0 y0 dx dy zz cu zo zu)), (zw, .inl (cI, 4096, .inl wh)), (zk, .inl (cI, 2, .inl kn)), (zp, .inl (cI, 2, .inl pt)), (zh, .inl (cZ, 2, .inl ha))] sz) := by
  refine Met.ofW (cc := cX6_insideOf) (maxL := 2) (ret := (some .int)) (by decide) rfl ?_
  intro p e s m args below meth c s₁ B hml hv
  obtain ⟨rfl, hsz, hP, hK, hD0⟩ := hv
  have hx := B.exec
  have hb := B.bytes
  have hr := B.returns
  have hts := atoms_spec (ws := wsX6_insideOf) B.pre
  have hown : s.vm.findClass RX6 = some m.cls := findClass_of_methodNamed B.named
  have hlocks := B.notSynchronized
  subst hsz
  have hD := hD0.self (sz := s.heap.size)
  generalize hAe : va_A [(ma, .inr (6, mo_ th zk zp za zb zx zy (nI ms.length) zf zt zw zm zh x0 y0 dx dy zz cu zo zu)), (zw, .inl (cI, 4096, .inl wh)), (zk, .inl (cI, 2, .inl kn)), (zp, .inl (cI, 2, .inl pt)), (zh, .inl (cZ, 2, .inl ha))] s.heap.size = A at hD ⊢
  have hA : ∀ q : Nat, s.heap.size ≤ q → A q := fun q h => by rw [← hAe]; exact Or.inr h
  have hS : va_S A s.heap s.heap [] := va_S.rf
  have hP : va_P g vwCl [(ma, .inr (6, mo_ th zk zp za zb zx zy (nI ms.length) zf zt zw zm zh x0 y0 dx dy zz cu zo zu)), (zw, .inl (cI, 4096, .inl wh)), (zk, .inl (cI, 2, .inl kn)), (zp, .inl (cI, 2, .inl pt)), (zh, .inl (cZ, 2, .inl ha))] s.heap := hP
  have hl := lv_entry ([.ref ma, .int (nI sh)]) (n := 2) (Nat.le_of_ble_eq_true rfl)
  rw [lg_entry_eq]
  generalize (lg_sl ([.ref ma, .int (nI sh)]) ++ List.replicate (2 - (lg_sl ([.ref ma, .int (nI sh)])).length) Slot.unset).toArray = ls at hl ⊢
  have hl : lv_has ls 2 [(0, .ref ma), (1, .int (nI sh))] := hl
  have hH0 : s.heap = s.heap := rfl
  have hiX6 := ikX6_insideOf_X6
  refine lv_aload_n hx hb dX6_insideOf_0 rfl (lv_at hl 0 rfl) ?_
  refine va_get (D := g) (ci := 6) (v := .ref zk) (C := RX6) (T := TX6) (N := 21) hx hb hts hiX6 hown hK hP 0 rfl rfl 1 (by decide) (hts (.fieldLink RX6 7 "ShapeRelatorModel" "kinds" "[I") (List.mem_of_getElem? (i := 1) rfl)) (fun _ h9 => h9) rfl dX6_insideOf_1 ?_
  refine lv_iload_n hx hb dX6_insideOf_4 rfl (lv_at hl 1 rfl) ?_
  refine va_iald (D := g) hx hb hK hP 2 0 rfl rfl (vp_in_nI (show sh < 2 by omega) (by omega)) dX6_insideOf_5 ?_
  refine tpi_ (y := (kn sh)) (by rw [nI_clamp (by omega)]) ?_
  refine lv_iconst (v := 1) hx hb dX6_insideOf_6 (by decide) ?_
  refine lv_icmp_ne (tgt := 27) hx hb dX6_insideOf_7 (by decide) (fun c1 => ?_) (fun c1 => ?_)
  · refine lv_aload_n hx hb dX6_insideOf_27 rfl (lv_at hl 0 rfl) ?_
    refine va_get (D := g) (ci := 6) (v := .ref zk) (C := RX6) (T := TX6) (N := 21) hx hb hts hiX6 hown hK hP 0 rfl rfl 1 (by decide) (hts (.fieldLink RX6 7 "ShapeRelatorModel" "kinds" "[I") (List.mem_of_getElem? (i := 1) rfl)) (fun _ h9 => h9) rfl dX6_insideOf_28 ?_
    refine lv_iload_n hx hb dX6_insideOf_31 rfl (lv_at hl 1 rfl) ?_
    refine va_iald (D := g) hx hb hK hP 2 0 rfl rfl (vp_in_nI (show sh < 2 by omega) (by omega)) dX6_insideOf_32 ?_
    refine tpi_ (y := (kn sh)) (by rw [nI_clamp (by omega)]) ?_
    refine lv_iconst (v := 2) hx hb dX6_insideOf_33 (by decide) ?_
    refine lv_icmp_ne (tgt := 53) hx hb dX6_insideOf_34 (by decide) (fun c2 => ?_) (fun c2 => ?_)
    · refine lv_aload_n hx hb dX6_insideOf_53 rfl (lv_at hl 0 rfl) ?_
      refine va_get (D := g) (ci := 6) (v := .ref zh) (C := RX6) (T := TX6) (N := 21) hx hb hts hiX6 hown hK hP 0 rfl rfl 12 (by decide) (hts (.fieldLink RX6 40 "ShapeRelatorModel" "hasArea" "[Z") (List.mem_of_getElem? (i := 3) rfl)) (fun _ h9 => h9) rfl dX6_insideOf_54 ?_
      refine lv_iload_n hx hb dX6_insideOf_57 rfl (lv_at hl 1 rfl) ?_
      refine va_zald (D := g) hx hb hK hP 4 2 rfl rfl (vp_in_nI (show sh < 2 by omega) (by omega)) dX6_insideOf_58 ?_
      refine tpi_ (y := (ha sh)) (by rw [nI_clamp (by omega)]) ?_
      refine lv_if_eq (tgt := 66) hx hb dX6_insideOf_59 (by decide) (fun c3 => ?_) (fun c3 => ?_)
      · refine lv_iconst (v := (-1)) hx hb dX6_insideOf_66 (by decide) ?_
        have hP9 := hP.sub (ws' := [(ma, .inr (6, mo_ th zk zp za zb zx zy (nI ms.length) zf zt zw zm zh x0 y0 dx dy zz cu zo zu)), (zw, .inl (cI, 4096, .inl wh)), (zk, .inl (cI, 2, .inl kn)), (zp, .inl (cI, 2, .inl pt)), (zh, .inl (cZ, 2, .inl ha))]) [0, 1, 2, 3, 4] rfl
        have hD9 := hD.sub (ws' := [(ma, .inr (6, mo_ th zk zp za zb zx zy (nI ms.length) zf zt zw zm zh x0 y0 dx dy zz cu zo zu)), (zw, .inl (cI, 4096, .inl wh)), (zk, .inl (cI, 2, .inl kn)), (zp, .inl (cI, 2, .inl pt)), (zh, .inl (cZ, 2, .inl ha))]) [0, 1, 2, 3, 4] (by decide) rfl
        exact W.iret (v := (-1)) hx hb hr (fun t ht hW => ⟨⟨(-1), (), rfl, by unfold ino_; rw [if_neg c1, if_neg c2, if_pos c3], by rw [ht]; exact hP9, va_K.moved hW.alike hK, hD9⟩, hS.F ht⟩) hS.2.2 dX6_insideOf_67
      · refine lv_iconst (v := 2) hx hb dX6_insideOf_62 (by decide) ?_
        refine lv_goto (tgt := 67) hx hb dX6_insideOf_63 (by decide) ?_
        have hP9 := hP.sub (ws' := [(ma, .inr (6, mo_ th zk zp za zb zx zy (nI ms.length) zf zt zw zm zh x0 y0 dx dy zz cu zo zu)), (zw, .inl (cI, 4096, .inl wh)), (zk, .inl (cI, 2, .inl kn)), (zp, .inl (cI, 2, .inl pt)), (zh, .inl (cZ, 2, .inl ha))]) [0, 1, 2, 3, 4] rfl
        have hD9 := hD.sub (ws' := [(ma, .inr (6, mo_ th zk zp za zb zx zy (nI ms.length) zf zt zw zm zh x0 y0 dx dy zz cu zo zu)), (zw, .inl (cI, 4096, .inl wh)), (zk, .inl (cI, 2, .inl kn)), (zp, .inl (cI, 2, .inl pt)), (zh, .inl (cZ, 2, .inl ha))]) [0, 1, 2, 3, 4] (by decide) rfl
        exact W.iret (v := 2) hx hb hr (fun t ht hW => ⟨⟨2, (), rfl, by unfold ino_; rw [if_neg c1, if_neg c2, if_neg c3], by rw [ht]; exact hP9, va_K.moved hW.alike hK, hD9⟩, hS.F ht⟩) hS.2.2 dX6_insideOf_67
    · refine lv_aload_n hx hb dX6_insideOf_37 rfl (lv_at hl 0 rfl) ?_
      refine lv_iload_n hx hb dX6_insideOf_38 rfl (lv_at hl 1 rfl) ?_
      have hPc := hP.sub (ws' := [(ma, .inr (6, mo_ th zk zp za zb zx zy (nI ms.length) zf zt zw zm zh x0 y0 dx dy zz cu zo zu)), (zw, .inl (cI, 4096, .inl wh))]) [0, 1] rfl
      have hDc := hD.sub (ws' := [(ma, .inr (6, mo_ th zk zp za zb zx zy (nI ms.length) zf zt zw zm zh x0 y0 dx dy zz cu zo zu)), (zw, .inl (cI, 4096, .inl wh))]) [0, 1] (by decide) rfl
      have hFc := va_free (wc := [(ma, .inr (6, mo_ th zk zp za zb zx zy (nI ms.length) zf zt zw zm zh x0 y0 dx dy zz cu zo zu)), (zw, .inl (cI, 4096, .inl wh))]) hD hS hA [0, 1] rfl
      refine va_calli (va_runV (As := [.int (nI sh)]) (rest := []) ⟨hx, hb, hml, hown, hts⟩ (kX6_hasSegments l g cI cJ cZ s.heap.size ma th x0 y0 dx dy cu zk zp za zb zx zy zf zt zw zm zh zz zo zu fr to1 wh ms sh hs hl1 hm3 hmb) (cwV 1 hts gX6_insideOf_X6_hasSegments rfl rfl rfl (by decide +kernel) ⟨Nat.le_of_ble_eq_true rfl, Nat.le_of_ble_eq_true rfl⟩) (pv_ hK hPc hDc (va_recv hK hPc (ci := 6) (q0 := 0) rfl rfl)) rfl rfl hl.1 rfl (lv_room (Nat.le_of_ble_eq_true rfl)) dX6_insideOf_39 ⟨Nat.zero_le _, Nat.zero_le _⟩) hS (fun q _ h => hFc q h) hFc (fun r1 u t H1 locs ht hvm hw1 hB hz1 hk1 hS => ?_)
      obtain ⟨hP1, hK1, hD1⟩ := hB
      rw [ht] at hP1
      obtain ⟨hP, hD⟩ := va_join (wr := [(zk, .inl (cI, 2, .inl kn)), (zp, .inl (cI, 2, .inl pt)), (zh, .inl (cZ, 2, .inl ha))]) (w1 := [(ma, .inr (6, mo_ th zk zp za zb zx zy (nI ms.length) zf zt zw zm zh x0 y0 dx dy zz cu zo zu)), (zw, .inl (cI, 4096, .inl wh))]) hP hD [0, 1] [2, 3, 4] rfl rfl (by decide) (by decide) hk1 hFc hP1 hD1
      clear hPc hDc hFc hP1 hD1 hK1 hk1 hz1 hvm ht
      generalize H1 = H at hP hS ⊢
      have hP : va_P g vwCl [(zk, .inl (cI, 2, .inl kn)), (zp, .inl (cI, 2, .inl pt)), (zh, .inl (cZ, 2, .inl ha)), (ma, .inr (6, mo_ th zk zp za zb zx zy (nI ms.length) zf zt zw zm zh x0 y0 dx dy zz cu zo zu)), (zw, .inl (cI, 4096, .inl wh))] H := hP
      have hD : va_D A [(zk, .inl (cI, 2, .inl kn)), (zp, .inl (cI, 2, .inl pt)), (zh, .inl (cZ, 2, .inl ha)), (ma, .inr (6, mo_ th zk zp za zb zx zy (nI ms.length) zf zt zw zm zh x0 y0 dx dy zz cu zo zu)), (zw, .inl (cI, 4096, .inl wh))] := hD
      refine lv_if_eq (tgt := 49) hx hb dX6_insideOf_42 (by decide) (fun c3 => ?_) (fun c3 => ?_)
      · refine lv_iconst (v := (-1)) hx hb dX6_insideOf_49 (by decide) ?_
        refine lv_goto (tgt := 67) hx hb dX6_insideOf_50 (by decide) ?_
        have hP9 := hP.sub (ws' := [(ma, .inr (6, mo_ th zk zp za zb zx zy (nI ms.length) zf zt zw zm zh x0 y0 dx dy zz cu zo zu)), (zw, .inl (cI, 4096, .inl wh)), (zk, .inl (cI, 2, .inl kn)), (zp, .inl (cI, 2, .inl pt)), (zh, .inl (cZ, 2, .inl ha))]) [3, 4, 0, 1, 2] rfl
        have hD9 := hD.sub (ws' := [(ma, .inr (6, mo_ th zk zp za zb zx zy (nI ms.length) zf zt zw zm zh x0 y0 dx dy zz cu zo zu)), (zw, .inl (cI, 4096, .inl wh)), (zk, .inl (cI, 2, .inl kn)), (zp, .inl (cI, 2, .inl pt)), (zh, .inl (cZ, 2, .inl ha))]) [3, 4, 0, 1, 2] (by decide) rfl
        exact W.iret (v := (-1)) hx hb hr (fun t ht hW => ⟨⟨(-1), (), rfl, by unfold ino_; rw [if_neg c1, if_pos c2, if_pos (hw1.symm.trans c3)], by rw [ht]; exact hP9, va_K.moved hW.alike hK, hD9⟩, hS.F ht⟩) hS.2.2 dX6_insideOf_67
      · refine lv_iconst (v := 1) hx hb dX6_insideOf_45 (by decide) ?_
        refine lv_goto (tgt := 67) hx hb dX6_insideOf_46 (by decide) ?_
        have hP9 := hP.sub (ws' := [(ma, .inr (6, mo_ th zk zp za zb zx zy (nI ms.length) zf zt zw zm zh x0 y0 dx dy zz cu zo zu)), (zw, .inl (cI, 4096, .inl wh)), (zk, .inl (cI, 2, .inl kn)), (zp, .inl (cI, 2, .inl pt)), (zh, .inl (cZ, 2, .inl ha))]) [3, 4, 0, 1, 2] rfl
        have hD9 := hD.sub (ws' := [(ma, .inr (6, mo_ th zk zp za zb zx zy (nI ms.length) zf zt zw zm zh x0 y0 dx dy zz cu zo zu)), (zw, .inl (cI, 4096, .inl wh)), (zk, .inl (cI, 2, .inl kn)), (zp, .inl (cI, 2, .inl pt)), (zh, .inl (cZ, 2, .inl ha))]) [3, 4, 0, 1, 2] (by decide) rfl
        exact W.iret (v := 1) hx hb hr (fun t ht hW => ⟨⟨1, (), rfl, by unfold ino_; rw [if_neg c1, if_pos c2, if_neg (fun h => c3 (hw1.trans h))], by rw [ht]; exact hP9, va_K.moved hW.alike hK, hD9⟩, hS.F ht⟩) hS.2.2 dX6_insideOf_67
  · refine lv_aload_n hx hb dX6_insideOf_10 rfl (lv_at hl 0 rfl) ?_
    refine va_get (D := g) (ci := 6) (v := .ref zp) (C := RX6) (T := TX6) (N := 21) hx hb hts hiX6 hown hK hP 0 rfl rfl 2 (by decide) (hts (.fieldLink RX6 13 "ShapeRelatorModel" "points" "[I") (List.mem_of_getElem? (i := 2) rfl)) (fun _ h9 => h9) rfl dX6_insideOf_11 ?_
    refine lv_iload_n hx hb dX6_insideOf_14 rfl (lv_at hl 1 rfl) ?_
    refine va_iald (D := g) hx hb hK hP 3 0 rfl rfl (vp_in_nI (show sh < 2 by omega) (by omega)) dX6_insideOf_15 ?_
    refine tpi_ (y := (nI np)) (by rw [nI_clamp (by omega), h1]) ?_
    refine lv_if_le (tgt := 23) hx hb dX6_insideOf_16 (by decide) (fun c2 => ?_) (fun c2 => ?_)
    · refine lv_iconst (v := (-1)) hx hb dX6_insideOf_23 (by decide) ?_
      refine lv_goto (tgt := 67) hx hb dX6_insideOf_24 (by decide) ?_
      have hP9 := hP.sub (ws' := [(ma, .inr (6, mo_ th zk zp za zb zx zy (nI ms.length) zf zt zw zm zh x0 y0 dx dy zz cu zo zu)), (zw, .inl (cI, 4096, .inl wh)), (zk, .inl (cI, 2, .inl kn)), (zp, .inl (cI, 2, .inl pt)), (zh, .inl (cZ, 2, .inl ha))]) [0, 1, 2, 3, 4] rfl
      have hD9 := hD.sub (ws' := [(ma, .inr (6, mo_ th zk zp za zb zx zy (nI ms.length) zf zt zw zm zh x0 y0 dx dy zz cu zo zu)), (zw, .inl (cI, 4096, .inl wh)), (zk, .inl (cI, 2, .inl kn)), (zp, .inl (cI, 2, .inl pt)), (zh, .inl (cZ, 2, .inl ha))]) [0, 1, 2, 3, 4] (by decide) rfl
      exact W.iret (v := (-1)) hx hb hr (fun t ht hW => ⟨⟨(-1), (), rfl, by unfold ino_; rw [if_pos c1, if_neg (by intro h; rw [Int32.le_iff_toInt_le, nI_toInt (by omega)] at c2; simp at c2; omega)], by rw [ht]; exact hP9, va_K.moved hW.alike hK, hD9⟩, hS.F ht⟩) hS.2.2 dX6_insideOf_67
    · refine lv_iconst (v := 0) hx hb dX6_insideOf_19 (by decide) ?_
      refine lv_goto (tgt := 67) hx hb dX6_insideOf_20 (by decide) ?_
      have hP9 := hP.sub (ws' := [(ma, .inr (6, mo_ th zk zp za zb zx zy (nI ms.length) zf zt zw zm zh x0 y0 dx dy zz cu zo zu)), (zw, .inl (cI, 4096, .inl wh)), (zk, .inl (cI, 2, .inl kn)), (zp, .inl (cI, 2, .inl pt)), (zh, .inl (cZ, 2, .inl ha))]) [0, 1, 2, 3, 4] rfl
      have hD9 := hD.sub (ws' := [(ma, .inr (6, mo_ th zk zp za zb zx zy (nI ms.length) zf zt zw zm zh x0 y0 dx dy zz cu zo zu)), (zw, .inl (cI, 4096, .inl wh)), (zk, .inl (cI, 2, .inl kn)), (zp, .inl (cI, 2, .inl pt)), (zh, .inl (cZ, 2, .inl ha))]) [0, 1, 2, 3, 4] (by decide) rfl
      exact W.iret (v := 0) hx hb hr (fun t ht hW => ⟨⟨0, (), rfl, by unfold ino_; rw [if_pos c1, if_pos (by rcases Nat.eq_zero_or_pos np with q | q; (· rw [q] at c2; exact absurd (by decide) c2); exact q)], by rw [ht]; exact hP9, va_K.moved hW.alike hK, hD9⟩, hS.F ht⟩) hS.2.2 dX6_insideOf_67

theorem ikX6_there_X6 : ∀ w ∈ wsX60, w ∈ wsX6_there := by decide +kernel
set_option maxHeartbeats 1000000 in
set_option maxRecDepth 100000 in
theorem kX6_there (l : Launch) (g : va_G) (cI cJ cZ : ClassId) (sz : Nat) (ma : Nat) (th : Int32) (sn : Int32) (x0 : Int64) (y0 : Int64) (dx : Int64) (dy : Int64) (cu : Int32) (zk : Nat) (zp : Nat) (za : Nat) (zb : Nat) (zx : Nat) (zy : Nat) (zf : Nat) (zt : Nat) (zw : Nat) (zm : Nat) (zh : Nat) (zz : Nat) (zo : Nat) (zu : Nat) (mx : Nat → Int32) (o1 : Int32) (o2 : Int32) (t1 : t3_ o1) (t2 : t3_ o2) : Met l yX6_there wsX6_there ({ frames := 0, cells := 0, slots := 0, locals := 0 }) (pc_ g cI cJ cZ [.ref ma, .int o1, .int o2] [(ma, .inr (6, mo_ th zk zp za zb zx zy sn zf zt zw zm zh x0 y0 dx dy zz cu zo zu)), (zm, .inl (cI, 9, .inl mx))] sz) (va_Qi (fun (r : Int32) (_ : Unit) => r = thr_ mx o1 o2) (fun (_ : Unit) t => wd_ g cI cJ cZ (va_A [(ma, .inr (6, mo_ th zk zp za zb zx zy sn zf zt zw zm zh x0 y0 dx dy zz cu zo zu)), (zm, .inl (cI, 9, .inl mx))] sz) [(ma, .inr (6, mo_ th zk zp za zb zx zy sn zf zt zw zm zh x0 y0 dx dy zz cu zo zu)), (zm, .inl (cI, 9, .inl mx))] t) (va_A [(ma, .inr (6, mo_ th zk zp za zb zx zy sn zf zt zw zm zh x0 y0 dx dy zz cu zo zu)), (zm, .inl (cI, 9, .inl mx))] sz)) (0) (0) (va_A [(ma, .inr (6, mo_ th zk zp za zb zx zy sn zf zt zw zm zh x0 y0 dx dy zz cu zo zu)), (zm, .inl (cI, 9, .inl mx))] sz) := by
  refine Met.ofW (cc := cX6_there) (maxL := 3) (ret := (some .boolean)) (by decide) rfl ?_
  intro p e s m args below meth c s₁ B hml hv
  obtain ⟨rfl, hsz, hP, hK, hD0⟩ := hv
  have hx := B.exec
  have hb := B.bytes
  have hr := B.returns
  have hts := atoms_spec (ws := wsX6_there) B.pre
  have hown : s.vm.findClass RX6 = some m.cls := findClass_of_methodNamed B.named
  have hlocks := B.notSynchronized
  subst hsz
  have hD := hD0.self (sz := s.heap.size)
  generalize hAe : va_A [(ma, .inr (6, mo_ th zk zp za zb zx zy sn zf zt zw zm zh x0 y0 dx dy zz cu zo zu)), (zm, .inl (cI, 9, .inl mx))] s.heap.size = A at hD ⊢
  have hA : ∀ q : Nat, s.heap.size ≤ q → A q := fun q h => by rw [← hAe]; exact Or.inr h
  have hS : va_S A s.heap s.heap [] := va_S.rf
  have hP : va_P g vwCl [(ma, .inr (6, mo_ th zk zp za zb zx zy sn zf zt zw zm zh x0 y0 dx dy zz cu zo zu)), (zm, .inl (cI, 9, .inl mx))] s.heap := hP
  have hl := lv_entry ([.ref ma, .int o1, .int o2]) (n := 3) (Nat.le_of_ble_eq_true rfl)
  rw [lg_entry_eq]
  generalize (lg_sl ([.ref ma, .int o1, .int o2]) ++ List.replicate (3 - (lg_sl ([.ref ma, .int o1, .int o2])).length) Slot.unset).toArray = ls at hl ⊢
  have hl : lv_has ls 3 [(0, .ref ma), (1, .int o1), (2, .int o2)] := hl
  have hH0 : s.heap = s.heap := rfl
  have hiX6 := ikX6_there_X6
  refine lv_aload_n hx hb dX6_there_0 rfl (lv_at hl 0 rfl) ?_
  refine va_get (D := g) (ci := 6) (v := .ref zm) (C := RX6) (T := TX6) (N := 21) hx hb hts hiX6 hown hK hP 0 rfl rfl 11 (by decide) (hts (.fieldLink RX6 37 "ShapeRelatorModel" "matrix" "[I") (List.mem_of_getElem? (i := 1) rfl)) (fun _ h9 => h9) rfl dX6_there_1 ?_
  refine lv_iconst (v := 3) hx hb dX6_there_4 (by decide) ?_
  refine lv_iload_n hx hb dX6_there_5 rfl (lv_at hl 1 rfl) ?_
  refine lv_imul hx hb dX6_there_6 ?_
  refine lv_iload_n hx hb dX6_there_7 rfl (lv_at hl 2 rfl) ?_
  refine lv_iadd hx hb dX6_there_8 ?_
  refine va_iald (D := g) hx hb hK hP 1 0 rfl rfl (t3_i t1 t2) dX6_there_9 ?_
  refine tpi_ (y := (mat_ mx o1 o2)) rfl ?_
  refine lv_if_lt (tgt := 17) hx hb dX6_there_10 (by decide) (fun c1 => ?_) (fun c1 => ?_)
  · refine lv_iconst (v := 0) hx hb dX6_there_17 (by decide) ?_
    have hP9 := hP.sub (ws' := [(ma, .inr (6, mo_ th zk zp za zb zx zy sn zf zt zw zm zh x0 y0 dx dy zz cu zo zu)), (zm, .inl (cI, 9, .inl mx))]) [0, 1] rfl
    have hD9 := hD.sub (ws' := [(ma, .inr (6, mo_ th zk zp za zb zx zy sn zf zt zw zm zh x0 y0 dx dy zz cu zo zu)), (zm, .inl (cI, 9, .inl mx))]) [0, 1] (by decide) rfl
    exact W.zret (v := 0) (ty := .boolean) hx hb hr (by decide +kernel) (fun t ht hW => ⟨⟨0, (), rfl, by unfold thr_; rw [if_pos c1], by rw [ht]; exact hP9, va_K.moved hW.alike hK, hD9⟩, hS.F ht⟩) hS.2.2 dX6_there_18
  · refine lv_iconst (v := 1) hx hb dX6_there_13 (by decide) ?_
    refine lv_goto (tgt := 18) hx hb dX6_there_14 (by decide) ?_
    have hP9 := hP.sub (ws' := [(ma, .inr (6, mo_ th zk zp za zb zx zy sn zf zt zw zm zh x0 y0 dx dy zz cu zo zu)), (zm, .inl (cI, 9, .inl mx))]) [0, 1] rfl
    have hD9 := hD.sub (ws' := [(ma, .inr (6, mo_ th zk zp za zb zx zy sn zf zt zw zm zh x0 y0 dx dy zz cu zo zu)), (zm, .inl (cI, 9, .inl mx))]) [0, 1] (by decide) rfl
    exact W.zret (v := 1) (ty := .boolean) hx hb hr (by decide +kernel) (fun t ht hW => ⟨⟨1, (), rfl, by unfold thr_; rw [if_neg c1], by rw [ht]; exact hP9, va_K.moved hW.alike hK, hD9⟩, hS.F ht⟩) hS.2.2 dX6_there_18

set_option maxHeartbeats 1000000 in
set_option maxRecDepth 100000 in
theorem kX6_meet (l : Launch) (g : va_G) (cI cJ cZ : ClassId) (sz : Nat) (ma : Nat) (th : Int32) (sn : Int32) (x0 : Int64) (y0 : Int64) (dx : Int64) (dy : Int64) (cu : Int32) (zk : Nat) (zp : Nat) (za : Nat) (zb : Nat) (zx : Nat) (zy : Nat) (zf : Nat) (zt : Nat) (zw : Nat) (zm : Nat) (zh : Nat) (zz : Nat) (zo : Nat) (zu : Nat) (mx : Nat → Int32)  : Met l yX6_meet wsX6_meet ({ frames := 1, cells := 0, slots := 0, locals := 22 }) (pc_ g cI cJ cZ [.ref ma] [(ma, .inr (6, mo_ th zk zp za zb zx zy sn zf zt zw zm zh x0 y0 dx dy zz cu zo zu)), (zm, .inl (cI, 9, .inl mx))] sz) (va_Qi (fun (r : Int32) (_ : Unit) => r = mee_ mx) (fun (_ : Unit) t => wd_ g cI cJ cZ (va_A [(ma, .inr (6, mo_ th zk zp za zb zx zy sn zf zt zw zm zh x0 y0 dx dy zz cu zo zu)), (zm, .inl (cI, 9, .inl mx))] sz) [(ma, .inr (6, mo_ th zk zp za zb zx zy sn zf zt zw zm zh x0 y0 dx dy zz cu zo zu)), (zm, .inl (cI, 9, .inl mx))] t) (va_A [(ma, .inr (6, mo_ th zk zp za zb zx zy sn zf zt zw zm zh x0 y0 dx dy zz cu zo zu)), (zm, .inl (cI, 9, .inl mx))] sz)) (0) (0) (va_A [(ma, .inr (6, mo_ th zk zp za zb zx zy sn zf zt zw zm zh x0 y0 dx dy zz cu zo zu)), (zm, .inl (cI, 9, .inl mx))] sz) := by
  refine Met.ofW (cc := cX6_meet) (maxL := 1) (ret := (some .boolean)) (by decide) rfl ?_
  intro p e s m args below meth c s₁ B hml hv
  obtain ⟨rfl, hsz, hP, hK, hD0⟩ := hv
  have hx := B.exec
  have hb := B.bytes
  have hr := B.returns
  have hts := atoms_spec (ws := wsX6_meet) B.pre
  have hown : s.vm.findClass RX6 = some m.cls := findClass_of_methodNamed B.named
  have hlocks := B.notSynchronized
  subst hsz
  have hD := hD0.self (sz := s.heap.size)
  generalize hAe : va_A [(ma, .inr (6, mo_ th zk zp za zb zx zy sn zf zt zw zm zh x0 y0 dx dy zz cu zo zu)), (zm, .inl (cI, 9, .inl mx))] s.heap.size = A at hD ⊢
  have hA : ∀ q : Nat, s.heap.size ≤ q → A q := fun q h => by rw [← hAe]; exact Or.inr h
  have hS : va_S A s.heap s.heap [] := va_S.rf
  have hP : va_P g vwCl [(ma, .inr (6, mo_ th zk zp za zb zx zy sn zf zt zw zm zh x0 y0 dx dy zz cu zo zu)), (zm, .inl (cI, 9, .inl mx))] s.heap := hP
  have hl := lv_entry ([.ref ma]) (n := 1) (Nat.le_of_ble_eq_true rfl)
  rw [lg_entry_eq]
  generalize (lg_sl ([.ref ma]) ++ List.replicate (1 - (lg_sl ([.ref ma])).length) Slot.unset).toArray = ls at hl ⊢
  have hl : lv_has ls 1 [(0, .ref ma)] := hl
  have hH0 : s.heap = s.heap := rfl
  refine lv_aload_n hx hb dX6_meet_0 rfl (lv_at hl 0 rfl) ?_
  refine lv_iconst (v := 0) hx hb dX6_meet_1 (by decide) ?_
  refine lv_iconst (v := 0) hx hb dX6_meet_2 (by decide) ?_
  have hPc := hP.sub (ws' := [(ma, .inr (6, mo_ th zk zp za zb zx zy sn zf zt zw zm zh x0 y0 dx dy zz cu zo zu)), (zm, .inl (cI, 9, .inl mx))]) [0, 1] rfl
  have hDc := hD.sub (ws' := [(ma, .inr (6, mo_ th zk zp za zb zx zy sn zf zt zw zm zh x0 y0 dx dy zz cu zo zu)), (zm, .inl (cI, 9, .inl mx))]) [0, 1] (by decide) rfl
  have hFc := va_free (wc := [(ma, .inr (6, mo_ th zk zp za zb zx zy sn zf zt zw zm zh x0 y0 dx dy zz cu zo zu)), (zm, .inl (cI, 9, .inl mx))]) hD hS hA [0, 1] rfl
  refine va_calli (va_runV (As := [.int 0, .int 0]) (rest := []) ⟨hx, hb, hml, hown, hts⟩ (kX6_there l g cI cJ cZ s.heap.size ma th sn x0 y0 dx dy cu zk zp za zb zx zy zf zt zw zm zh zz zo zu mx 0 0 t3_0 t3_0) (cwV 2 hts gX6_meet_X6_there rfl rfl rfl (by decide +kernel) ⟨Nat.le_of_ble_eq_true rfl, Nat.le_of_ble_eq_true rfl⟩) (pv_ hK hPc hDc (va_recv hK hPc (ci := 6) (q0 := 0) rfl rfl)) rfl rfl hl.1 rfl (lv_room (Nat.le_of_ble_eq_true rfl)) dX6_meet_3 ⟨Nat.zero_le _, Nat.zero_le _⟩) hS (fun q _ h => hFc q h) hFc (fun r1 u t H1 locs ht hvm hw1 hB hz1 hk1 hS => ?_)
  obtain ⟨hP1, hK1, hD1⟩ := hB
  rw [ht] at hP1
  obtain ⟨hP, hD⟩ := va_join (wr := []) (w1 := [(ma, .inr (6, mo_ th zk zp za zb zx zy sn zf zt zw zm zh x0 y0 dx dy zz cu zo zu)), (zm, .inl (cI, 9, .inl mx))]) hP hD [0, 1] [] rfl rfl (by decide) (by decide) hk1 hFc hP1 hD1
  clear hPc hDc hFc hP1 hD1 hK1 hk1 hz1 hvm ht
  generalize H1 = H at hP hS ⊢
  have hP : va_P g vwCl [(ma, .inr (6, mo_ th zk zp za zb zx zy sn zf zt zw zm zh x0 y0 dx dy zz cu zo zu)), (zm, .inl (cI, 9, .inl mx))] H := hP
  have hD : va_D A [(ma, .inr (6, mo_ th zk zp za zb zx zy sn zf zt zw zm zh x0 y0 dx dy zz cu zo zu)), (zm, .inl (cI, 9, .inl mx))] := hD
  refine lv_if_ne (tgt := 36) hx hb dX6_meet_6 (by decide) (fun c1 => ?_) (fun c1 => ?_)
  · refine lv_iconst (v := 1) hx hb dX6_meet_36 (by decide) ?_
    refine lv_goto (tgt := 41) hx hb dX6_meet_37 (by decide) ?_
    have hP9 := hP.sub (ws' := [(ma, .inr (6, mo_ th zk zp za zb zx zy sn zf zt zw zm zh x0 y0 dx dy zz cu zo zu)), (zm, .inl (cI, 9, .inl mx))]) [0, 1] rfl
    have hD9 := hD.sub (ws' := [(ma, .inr (6, mo_ th zk zp za zb zx zy sn zf zt zw zm zh x0 y0 dx dy zz cu zo zu)), (zm, .inl (cI, 9, .inl mx))]) [0, 1] (by decide) rfl
    exact W.zret (v := 1) (ty := .boolean) hx hb hr (by decide +kernel) (fun t ht hW => ⟨⟨1, (), rfl, by (try simp only [hw1] at c1); simp [mee_, c1, hw1], by rw [ht]; exact hP9, va_K.moved hW.alike hK, hD9⟩, hS.F ht⟩) hS.2.2 dX6_meet_41
  · refine lv_aload_n hx hb dX6_meet_9 rfl (lv_at hl 0 rfl) ?_
    refine lv_iconst (v := 0) hx hb dX6_meet_10 (by decide) ?_
    refine lv_iconst (v := 1) hx hb dX6_meet_11 (by decide) ?_
    have hPc := hP.sub (ws' := [(ma, .inr (6, mo_ th zk zp za zb zx zy sn zf zt zw zm zh x0 y0 dx dy zz cu zo zu)), (zm, .inl (cI, 9, .inl mx))]) [0, 1] rfl
    have hDc := hD.sub (ws' := [(ma, .inr (6, mo_ th zk zp za zb zx zy sn zf zt zw zm zh x0 y0 dx dy zz cu zo zu)), (zm, .inl (cI, 9, .inl mx))]) [0, 1] (by decide) rfl
    have hFc := va_free (wc := [(ma, .inr (6, mo_ th zk zp za zb zx zy sn zf zt zw zm zh x0 y0 dx dy zz cu zo zu)), (zm, .inl (cI, 9, .inl mx))]) hD hS hA [0, 1] rfl
    refine va_calli (va_runV (As := [.int 0, .int 1]) (rest := []) ⟨hx, hb, hml, hown, hts⟩ (kX6_there l g cI cJ cZ H.size ma th sn x0 y0 dx dy cu zk zp za zb zx zy zf zt zw zm zh zz zo zu mx 0 1 t3_0 t3_1) (cwV 2 hts gX6_meet_X6_there rfl rfl rfl (by decide +kernel) ⟨Nat.le_of_ble_eq_true rfl, Nat.le_of_ble_eq_true rfl⟩) (pv_ hK hPc hDc (va_recv hK hPc (ci := 6) (q0 := 0) rfl rfl)) rfl rfl hl.1 rfl (lv_room (Nat.le_of_ble_eq_true rfl)) dX6_meet_12 ⟨Nat.zero_le _, Nat.zero_le _⟩) hS (fun q _ h => hFc q h) hFc (fun r2 u t H1 locs ht hvm hw2 hB hz1 hk1 hS => ?_)
    obtain ⟨hP1, hK1, hD1⟩ := hB
    rw [ht] at hP1
    obtain ⟨hP, hD⟩ := va_join (wr := []) (w1 := [(ma, .inr (6, mo_ th zk zp za zb zx zy sn zf zt zw zm zh x0 y0 dx dy zz cu zo zu)), (zm, .inl (cI, 9, .inl mx))]) hP hD [0, 1] [] rfl rfl (by decide) (by decide) hk1 hFc hP1 hD1
    clear hPc hDc hFc hP1 hD1 hK1 hk1 hz1 hvm ht
    generalize H1 = H at hP hS ⊢
    have hP : va_P g vwCl [(ma, .inr (6, mo_ th zk zp za zb zx zy sn zf zt zw zm zh x0 y0 dx dy zz cu zo zu)), (zm, .inl (cI, 9, .inl mx))] H := hP
    have hD : va_D A [(ma, .inr (6, mo_ th zk zp za zb zx zy sn zf zt zw zm zh x0 y0 dx dy zz cu zo zu)), (zm, .inl (cI, 9, .inl mx))] := hD
    refine lv_if_ne (tgt := 36) hx hb dX6_meet_15 (by decide) (fun c2 => ?_) (fun c2 => ?_)
    · refine lv_iconst (v := 1) hx hb dX6_meet_36 (by decide) ?_
      refine lv_goto (tgt := 41) hx hb dX6_meet_37 (by decide) ?_
      have hP9 := hP.sub (ws' := [(ma, .inr (6, mo_ th zk zp za zb zx zy sn zf zt zw zm zh x0 y0 dx dy zz cu zo zu)), (zm, .inl (cI, 9, .inl mx))]) [0, 1] rfl
      have hD9 := hD.sub (ws' := [(ma, .inr (6, mo_ th zk zp za zb zx zy sn zf zt zw zm zh x0 y0 dx dy zz cu zo zu)), (zm, .inl (cI, 9, .inl mx))]) [0, 1] (by decide) rfl
      exact W.zret (v := 1) (ty := .boolean) hx hb hr (by decide +kernel) (fun t ht hW => ⟨⟨1, (), rfl, by (try simp only [hw1, hw2] at c1 c2); simp [mee_, c1, c2, hw1, hw2], by rw [ht]; exact hP9, va_K.moved hW.alike hK, hD9⟩, hS.F ht⟩) hS.2.2 dX6_meet_41
    · refine lv_aload_n hx hb dX6_meet_18 rfl (lv_at hl 0 rfl) ?_
      refine lv_iconst (v := 1) hx hb dX6_meet_19 (by decide) ?_
      refine lv_iconst (v := 0) hx hb dX6_meet_20 (by decide) ?_
      have hPc := hP.sub (ws' := [(ma, .inr (6, mo_ th zk zp za zb zx zy sn zf zt zw zm zh x0 y0 dx dy zz cu zo zu)), (zm, .inl (cI, 9, .inl mx))]) [0, 1] rfl
      have hDc := hD.sub (ws' := [(ma, .inr (6, mo_ th zk zp za zb zx zy sn zf zt zw zm zh x0 y0 dx dy zz cu zo zu)), (zm, .inl (cI, 9, .inl mx))]) [0, 1] (by decide) rfl
      have hFc := va_free (wc := [(ma, .inr (6, mo_ th zk zp za zb zx zy sn zf zt zw zm zh x0 y0 dx dy zz cu zo zu)), (zm, .inl (cI, 9, .inl mx))]) hD hS hA [0, 1] rfl
      refine va_calli (va_runV (As := [.int 1, .int 0]) (rest := []) ⟨hx, hb, hml, hown, hts⟩ (kX6_there l g cI cJ cZ H.size ma th sn x0 y0 dx dy cu zk zp za zb zx zy zf zt zw zm zh zz zo zu mx 1 0 t3_1 t3_0) (cwV 2 hts gX6_meet_X6_there rfl rfl rfl (by decide +kernel) ⟨Nat.le_of_ble_eq_true rfl, Nat.le_of_ble_eq_true rfl⟩) (pv_ hK hPc hDc (va_recv hK hPc (ci := 6) (q0 := 0) rfl rfl)) rfl rfl hl.1 rfl (lv_room (Nat.le_of_ble_eq_true rfl)) dX6_meet_21 ⟨Nat.zero_le _, Nat.zero_le _⟩) hS (fun q _ h => hFc q h) hFc (fun r3 u t H1 locs ht hvm hw3 hB hz1 hk1 hS => ?_)
      obtain ⟨hP1, hK1, hD1⟩ := hB
      rw [ht] at hP1
      obtain ⟨hP, hD⟩ := va_join (wr := []) (w1 := [(ma, .inr (6, mo_ th zk zp za zb zx zy sn zf zt zw zm zh x0 y0 dx dy zz cu zo zu)), (zm, .inl (cI, 9, .inl mx))]) hP hD [0, 1] [] rfl rfl (by decide) (by decide) hk1 hFc hP1 hD1
      clear hPc hDc hFc hP1 hD1 hK1 hk1 hz1 hvm ht
      generalize H1 = H at hP hS ⊢
      have hP : va_P g vwCl [(ma, .inr (6, mo_ th zk zp za zb zx zy sn zf zt zw zm zh x0 y0 dx dy zz cu zo zu)), (zm, .inl (cI, 9, .inl mx))] H := hP
      have hD : va_D A [(ma, .inr (6, mo_ th zk zp za zb zx zy sn zf zt zw zm zh x0 y0 dx dy zz cu zo zu)), (zm, .inl (cI, 9, .inl mx))] := hD
      refine lv_if_ne (tgt := 36) hx hb dX6_meet_24 (by decide) (fun c3 => ?_) (fun c3 => ?_)
      · refine lv_iconst (v := 1) hx hb dX6_meet_36 (by decide) ?_
        refine lv_goto (tgt := 41) hx hb dX6_meet_37 (by decide) ?_
        have hP9 := hP.sub (ws' := [(ma, .inr (6, mo_ th zk zp za zb zx zy sn zf zt zw zm zh x0 y0 dx dy zz cu zo zu)), (zm, .inl (cI, 9, .inl mx))]) [0, 1] rfl
        have hD9 := hD.sub (ws' := [(ma, .inr (6, mo_ th zk zp za zb zx zy sn zf zt zw zm zh x0 y0 dx dy zz cu zo zu)), (zm, .inl (cI, 9, .inl mx))]) [0, 1] (by decide) rfl
        exact W.zret (v := 1) (ty := .boolean) hx hb hr (by decide +kernel) (fun t ht hW => ⟨⟨1, (), rfl, by (try simp only [hw1, hw2, hw3] at c1 c2 c3); simp [mee_, c1, c2, c3, hw1, hw2, hw3], by rw [ht]; exact hP9, va_K.moved hW.alike hK, hD9⟩, hS.F ht⟩) hS.2.2 dX6_meet_41
      · refine lv_aload_n hx hb dX6_meet_27 rfl (lv_at hl 0 rfl) ?_
        refine lv_iconst (v := 1) hx hb dX6_meet_28 (by decide) ?_
        refine lv_iconst (v := 1) hx hb dX6_meet_29 (by decide) ?_
        have hPc := hP.sub (ws' := [(ma, .inr (6, mo_ th zk zp za zb zx zy sn zf zt zw zm zh x0 y0 dx dy zz cu zo zu)), (zm, .inl (cI, 9, .inl mx))]) [0, 1] rfl
        have hDc := hD.sub (ws' := [(ma, .inr (6, mo_ th zk zp za zb zx zy sn zf zt zw zm zh x0 y0 dx dy zz cu zo zu)), (zm, .inl (cI, 9, .inl mx))]) [0, 1] (by decide) rfl
        have hFc := va_free (wc := [(ma, .inr (6, mo_ th zk zp za zb zx zy sn zf zt zw zm zh x0 y0 dx dy zz cu zo zu)), (zm, .inl (cI, 9, .inl mx))]) hD hS hA [0, 1] rfl
        refine va_calli (va_runV (As := [.int 1, .int 1]) (rest := []) ⟨hx, hb, hml, hown, hts⟩ (kX6_there l g cI cJ cZ H.size ma th sn x0 y0 dx dy cu zk zp za zb zx zy zf zt zw zm zh zz zo zu mx 1 1 t3_1 t3_1) (cwV 2 hts gX6_meet_X6_there rfl rfl rfl (by decide +kernel) ⟨Nat.le_of_ble_eq_true rfl, Nat.le_of_ble_eq_true rfl⟩) (pv_ hK hPc hDc (va_recv hK hPc (ci := 6) (q0 := 0) rfl rfl)) rfl rfl hl.1 rfl (lv_room (Nat.le_of_ble_eq_true rfl)) dX6_meet_30 ⟨Nat.zero_le _, Nat.zero_le _⟩) hS (fun q _ h => hFc q h) hFc (fun r4 u t H1 locs ht hvm hw4 hB hz1 hk1 hS => ?_)
        obtain ⟨hP1, hK1, hD1⟩ := hB
        rw [ht] at hP1
        obtain ⟨hP, hD⟩ := va_join (wr := []) (w1 := [(ma, .inr (6, mo_ th zk zp za zb zx zy sn zf zt zw zm zh x0 y0 dx dy zz cu zo zu)), (zm, .inl (cI, 9, .inl mx))]) hP hD [0, 1] [] rfl rfl (by decide) (by decide) hk1 hFc hP1 hD1
        clear hPc hDc hFc hP1 hD1 hK1 hk1 hz1 hvm ht
        generalize H1 = H at hP hS ⊢
        have hP : va_P g vwCl [(ma, .inr (6, mo_ th zk zp za zb zx zy sn zf zt zw zm zh x0 y0 dx dy zz cu zo zu)), (zm, .inl (cI, 9, .inl mx))] H := hP
        have hD : va_D A [(ma, .inr (6, mo_ th zk zp za zb zx zy sn zf zt zw zm zh x0 y0 dx dy zz cu zo zu)), (zm, .inl (cI, 9, .inl mx))] := hD
        refine lv_if_eq (tgt := 40) hx hb dX6_meet_33 (by decide) (fun c4 => ?_) (fun c4 => ?_)
        · refine lv_iconst (v := 0) hx hb dX6_meet_40 (by decide) ?_
          have hP9 := hP.sub (ws' := [(ma, .inr (6, mo_ th zk zp za zb zx zy sn zf zt zw zm zh x0 y0 dx dy zz cu zo zu)), (zm, .inl (cI, 9, .inl mx))]) [0, 1] rfl
          have hD9 := hD.sub (ws' := [(ma, .inr (6, mo_ th zk zp za zb zx zy sn zf zt zw zm zh x0 y0 dx dy zz cu zo zu)), (zm, .inl (cI, 9, .inl mx))]) [0, 1] (by decide) rfl
          exact W.zret (v := 0) (ty := .boolean) hx hb hr (by decide +kernel) (fun t ht hW => ⟨⟨0, (), rfl, by (try simp only [hw1, hw2, hw3, hw4] at c1 c2 c3 c4); simp [mee_, c1, c2, c3, c4, hw1, hw2, hw3, hw4], by rw [ht]; exact hP9, va_K.moved hW.alike hK, hD9⟩, hS.F ht⟩) hS.2.2 dX6_meet_41
        · refine lv_iconst (v := 1) hx hb dX6_meet_36 (by decide) ?_
          refine lv_goto (tgt := 41) hx hb dX6_meet_37 (by decide) ?_
          have hP9 := hP.sub (ws' := [(ma, .inr (6, mo_ th zk zp za zb zx zy sn zf zt zw zm zh x0 y0 dx dy zz cu zo zu)), (zm, .inl (cI, 9, .inl mx))]) [0, 1] rfl
          have hD9 := hD.sub (ws' := [(ma, .inr (6, mo_ th zk zp za zb zx zy sn zf zt zw zm zh x0 y0 dx dy zz cu zo zu)), (zm, .inl (cI, 9, .inl mx))]) [0, 1] (by decide) rfl
          exact W.zret (v := 1) (ty := .boolean) hx hb hr (by decide +kernel) (fun t ht hW => ⟨⟨1, (), rfl, by (try simp only [hw1, hw2, hw3, hw4] at c1 c2 c3 c4); simp [mee_, c1, c2, c3, c4, hw1, hw2, hw3, hw4], by rw [ht]; exact hP9, va_K.moved hW.alike hK, hD9⟩, hS.F ht⟩) hS.2.2 dX6_meet_41

theorem ikX6_none_X6 : ∀ w ∈ wsX60, w ∈ wsX6_none := by decide +kernel
set_option maxHeartbeats 1000000 in
set_option maxRecDepth 100000 in
theorem kX6_none (l : Launch) (g : va_G) (cI cJ cZ : ClassId) (sz : Nat) (ma : Nat) (th : Int32) (sn : Int32) (x0 : Int64) (y0 : Int64) (dx : Int64) (dy : Int64) (cu : Int32) (zk : Nat) (zp : Nat) (za : Nat) (zb : Nat) (zx : Nat) (zy : Nat) (zf : Nat) (zt : Nat) (zw : Nat) (zm : Nat) (zh : Nat) (zz : Nat) (zo : Nat) (zu : Nat) (mx : Nat → Int32) (o1 : Nat) (o2 : Nat) (h1 : o1 < 9) (h2 : o2 < 9) : Met l yX6_none wsX6_none ({ frames := 0, cells := 0, slots := 0, locals := 0 }) (pc_ g cI cJ cZ [.ref ma, .int (nI o1), .int (nI o2)] [(ma, .inr (6, mo_ th zk zp za zb zx zy sn zf zt zw zm zh x0 y0 dx dy zz cu zo zu)), (zm, .inl (cI, 9, .inl mx))] sz) (va_Qi (fun (r : Int32) (_ : Unit) => r = non_ mx o1 o2) (fun (_ : Unit) t => wd_ g cI cJ cZ (va_A [(ma, .inr (6, mo_ th zk zp za zb zx zy sn zf zt zw zm zh x0 y0 dx dy zz cu zo zu)), (zm, .inl (cI, 9, .inl mx))] sz) [(ma, .inr (6, mo_ th zk zp za zb zx zy sn zf zt zw zm zh x0 y0 dx dy zz cu zo zu)), (zm, .inl (cI, 9, .inl mx))] t) (va_A [(ma, .inr (6, mo_ th zk zp za zb zx zy sn zf zt zw zm zh x0 y0 dx dy zz cu zo zu)), (zm, .inl (cI, 9, .inl mx))] sz)) (0) (0) (va_A [(ma, .inr (6, mo_ th zk zp za zb zx zy sn zf zt zw zm zh x0 y0 dx dy zz cu zo zu)), (zm, .inl (cI, 9, .inl mx))] sz) := by
  refine Met.ofW (cc := cX6_none) (maxL := 3) (ret := (some .boolean)) (by decide) rfl ?_
  intro p e s m args below meth c s₁ B hml hv
  obtain ⟨rfl, hsz, hP, hK, hD0⟩ := hv
  have hx := B.exec
  have hb := B.bytes
  have hr := B.returns
  have hts := atoms_spec (ws := wsX6_none) B.pre
  have hown : s.vm.findClass RX6 = some m.cls := findClass_of_methodNamed B.named
  have hlocks := B.notSynchronized
  subst hsz
  have hD := hD0.self (sz := s.heap.size)
  generalize hAe : va_A [(ma, .inr (6, mo_ th zk zp za zb zx zy sn zf zt zw zm zh x0 y0 dx dy zz cu zo zu)), (zm, .inl (cI, 9, .inl mx))] s.heap.size = A at hD ⊢
  have hA : ∀ q : Nat, s.heap.size ≤ q → A q := fun q h => by rw [← hAe]; exact Or.inr h
  have hS : va_S A s.heap s.heap [] := va_S.rf
  have hP : va_P g vwCl [(ma, .inr (6, mo_ th zk zp za zb zx zy sn zf zt zw zm zh x0 y0 dx dy zz cu zo zu)), (zm, .inl (cI, 9, .inl mx))] s.heap := hP
  have hl := lv_entry ([.ref ma, .int (nI o1), .int (nI o2)]) (n := 3) (Nat.le_of_ble_eq_true rfl)
  rw [lg_entry_eq]
  generalize (lg_sl ([.ref ma, .int (nI o1), .int (nI o2)]) ++ List.replicate (3 - (lg_sl ([.ref ma, .int (nI o1), .int (nI o2)])).length) Slot.unset).toArray = ls at hl ⊢
  have hl : lv_has ls 3 [(0, .ref ma), (1, .int (nI o1)), (2, .int (nI o2))] := hl
  have hH0 : s.heap = s.heap := rfl
  have hiX6 := ikX6_none_X6
  refine lv_aload_n hx hb dX6_none_0 rfl (lv_at hl 0 rfl) ?_
  refine va_get (D := g) (ci := 6) (v := .ref zm) (C := RX6) (T := TX6) (N := 21) hx hb hts hiX6 hown hK hP 0 rfl rfl 11 (by decide) (hts (.fieldLink RX6 37 "ShapeRelatorModel" "matrix" "[I") (List.mem_of_getElem? (i := 1) rfl)) (fun _ h9 => h9) rfl dX6_none_1 ?_
  refine lv_iload_n hx hb dX6_none_4 rfl (lv_at hl 1 rfl) ?_
  refine va_iald (D := g) hx hb hK hP 1 0 rfl rfl (vp_in_nI (h1) (by omega)) dX6_none_5 ?_
  refine tpi_ (y := (mx o1)) (by rw [nI_clamp (by omega)]) ?_
  refine lv_if_ge (tgt := 22) hx hb dX6_none_6 (by decide) (fun c1 => ?_) (fun c1 => ?_)
  · refine lv_iconst (v := 0) hx hb dX6_none_22 (by decide) ?_
    have hP9 := hP.sub (ws' := [(ma, .inr (6, mo_ th zk zp za zb zx zy sn zf zt zw zm zh x0 y0 dx dy zz cu zo zu)), (zm, .inl (cI, 9, .inl mx))]) [0, 1] rfl
    have hD9 := hD.sub (ws' := [(ma, .inr (6, mo_ th zk zp za zb zx zy sn zf zt zw zm zh x0 y0 dx dy zz cu zo zu)), (zm, .inl (cI, 9, .inl mx))]) [0, 1] (by decide) rfl
    exact W.zret (v := 0) (ty := .boolean) hx hb hr (by decide +kernel) (fun t ht hW => ⟨⟨0, (), rfl, by unfold non_; rw [if_neg (fun h => Int32.not_lt.mpr c1 h.1)], by rw [ht]; exact hP9, va_K.moved hW.alike hK, hD9⟩, hS.F ht⟩) hS.2.2 dX6_none_23
  · refine lv_aload_n hx hb dX6_none_9 rfl (lv_at hl 0 rfl) ?_
    refine va_get (D := g) (ci := 6) (v := .ref zm) (C := RX6) (T := TX6) (N := 21) hx hb hts hiX6 hown hK hP 0 rfl rfl 11 (by decide) (hts (.fieldLink RX6 37 "ShapeRelatorModel" "matrix" "[I") (List.mem_of_getElem? (i := 1) rfl)) (fun _ h9 => h9) rfl dX6_none_10 ?_
    refine lv_iload_n hx hb dX6_none_13 rfl (lv_at hl 2 rfl) ?_
    refine va_iald (D := g) hx hb hK hP 1 0 rfl rfl (vp_in_nI (h2) (by omega)) dX6_none_14 ?_
    refine tpi_ (y := (mx o2)) (by rw [nI_clamp (by omega)]) ?_
    refine lv_if_ge (tgt := 22) hx hb dX6_none_15 (by decide) (fun c2 => ?_) (fun c2 => ?_)
    · refine lv_iconst (v := 0) hx hb dX6_none_22 (by decide) ?_
      have hP9 := hP.sub (ws' := [(ma, .inr (6, mo_ th zk zp za zb zx zy sn zf zt zw zm zh x0 y0 dx dy zz cu zo zu)), (zm, .inl (cI, 9, .inl mx))]) [0, 1] rfl
      have hD9 := hD.sub (ws' := [(ma, .inr (6, mo_ th zk zp za zb zx zy sn zf zt zw zm zh x0 y0 dx dy zz cu zo zu)), (zm, .inl (cI, 9, .inl mx))]) [0, 1] (by decide) rfl
      exact W.zret (v := 0) (ty := .boolean) hx hb hr (by decide +kernel) (fun t ht hW => ⟨⟨0, (), rfl, by unfold non_; rw [if_neg (fun h => Int32.not_lt.mpr c2 h.2)], by rw [ht]; exact hP9, va_K.moved hW.alike hK, hD9⟩, hS.F ht⟩) hS.2.2 dX6_none_23
    · refine lv_iconst (v := 1) hx hb dX6_none_18 (by decide) ?_
      refine lv_goto (tgt := 23) hx hb dX6_none_19 (by decide) ?_
      have hP9 := hP.sub (ws' := [(ma, .inr (6, mo_ th zk zp za zb zx zy sn zf zt zw zm zh x0 y0 dx dy zz cu zo zu)), (zm, .inl (cI, 9, .inl mx))]) [0, 1] rfl
      have hD9 := hD.sub (ws' := [(ma, .inr (6, mo_ th zk zp za zb zx zy sn zf zt zw zm zh x0 y0 dx dy zz cu zo zu)), (zm, .inl (cI, 9, .inl mx))]) [0, 1] (by decide) rfl
      exact W.zret (v := 1) (ty := .boolean) hx hb hr (by decide +kernel) (fun t ht hW => ⟨⟨1, (), rfl, by unfold non_; rw [if_pos ⟨Int32.not_le.mp c1, Int32.not_le.mp c2⟩], by rw [ht]; exact hP9, va_K.moved hW.alike hK, hD9⟩, hS.F ht⟩) hS.2.2 dX6_none_23

theorem ikX6_crossing_X6 : ∀ w ∈ wsX60, w ∈ wsX6_crossing := by decide +kernel
set_option maxHeartbeats 1000000 in
set_option maxRecDepth 100000 in
theorem kX6_crossing (l : Launch) (g : va_G) (cI cJ cZ : ClassId) (sz : Nat) (ma : Nat) (th : Int32) (sn : Int32) (x0 : Int64) (y0 : Int64) (dx : Int64) (dy : Int64) (cu : Int32) (zk : Nat) (zp : Nat) (za : Nat) (zb : Nat) (zx : Nat) (zy : Nat) (zf : Nat) (zt : Nat) (zw : Nat) (zm : Nat) (zh : Nat) (zz : Nat) (zo : Nat) (zu : Nat) (mx : Nat → Int32) (d1 : Int32) (d2 : Int32)  : Met l yX6_crossing wsX6_crossing ({ frames := 1, cells := 0, slots := 0, locals := 22 }) (pc_ g cI cJ cZ [.ref ma, .int d1, .int d2] [(ma, .inr (6, mo_ th zk zp za zb zx zy sn zf zt zw zm zh x0 y0 dx dy zz cu zo zu)), (zm, .inl (cI, 9, .inl mx))] sz) (va_Qi (fun (r : Int32) (_ : Unit) => r = crg_ mx d1 d2) (fun (_ : Unit) t => wd_ g cI cJ cZ (va_A [(ma, .inr (6, mo_ th zk zp za zb zx zy sn zf zt zw zm zh x0 y0 dx dy zz cu zo zu)), (zm, .inl (cI, 9, .inl mx))] sz) [(ma, .inr (6, mo_ th zk zp za zb zx zy sn zf zt zw zm zh x0 y0 dx dy zz cu zo zu)), (zm, .inl (cI, 9, .inl mx))] t) (va_A [(ma, .inr (6, mo_ th zk zp za zb zx zy sn zf zt zw zm zh x0 y0 dx dy zz cu zo zu)), (zm, .inl (cI, 9, .inl mx))] sz)) (0) (0) (va_A [(ma, .inr (6, mo_ th zk zp za zb zx zy sn zf zt zw zm zh x0 y0 dx dy zz cu zo zu)), (zm, .inl (cI, 9, .inl mx))] sz) := by
  refine Met.ofW (cc := cX6_crossing) (maxL := 3) (ret := (some .boolean)) (by decide) rfl ?_
  intro p e s m args below meth c s₁ B hml hv
  obtain ⟨rfl, hsz, hP, hK, hD0⟩ := hv
  have hx := B.exec
  have hb := B.bytes
  have hr := B.returns
  have hts := atoms_spec (ws := wsX6_crossing) B.pre
  have hown : s.vm.findClass RX6 = some m.cls := findClass_of_methodNamed B.named
  have hlocks := B.notSynchronized
  subst hsz
  have hD := hD0.self (sz := s.heap.size)
  generalize hAe : va_A [(ma, .inr (6, mo_ th zk zp za zb zx zy sn zf zt zw zm zh x0 y0 dx dy zz cu zo zu)), (zm, .inl (cI, 9, .inl mx))] s.heap.size = A at hD ⊢
  have hA : ∀ q : Nat, s.heap.size ≤ q → A q := fun q h => by rw [← hAe]; exact Or.inr h
  have hS : va_S A s.heap s.heap [] := va_S.rf
  have hP : va_P g vwCl [(ma, .inr (6, mo_ th zk zp za zb zx zy sn zf zt zw zm zh x0 y0 dx dy zz cu zo zu)), (zm, .inl (cI, 9, .inl mx))] s.heap := hP
  have hl := lv_entry ([.ref ma, .int d1, .int d2]) (n := 3) (Nat.le_of_ble_eq_true rfl)
  rw [lg_entry_eq]
  generalize (lg_sl ([.ref ma, .int d1, .int d2]) ++ List.replicate (3 - (lg_sl ([.ref ma, .int d1, .int d2])).length) Slot.unset).toArray = ls at hl ⊢
  have hl : lv_has ls 3 [(0, .ref ma), (1, .int d1), (2, .int d2)] := hl
  have hH0 : s.heap = s.heap := rfl
  have hiX6 := ikX6_crossing_X6
  refine lv_iload_n hx hb dX6_crossing_0 rfl (lv_at hl 1 rfl) ?_
  refine lv_iload_n hx hb dX6_crossing_1 rfl (lv_at hl 2 rfl) ?_
  refine lv_icmp_ge (tgt := 29) hx hb dX6_crossing_2 (by decide) (fun c1 => ?_) (fun c1 => ?_)
  · refine lv_iload_n hx hb dX6_crossing_29 rfl (lv_at hl 1 rfl) ?_
    refine lv_iload_n hx hb dX6_crossing_30 rfl (lv_at hl 2 rfl) ?_
    refine lv_icmp_le (tgt := 58) hx hb dX6_crossing_31 (by decide) (fun c2 => ?_) (fun c2 => ?_)
    · refine lv_iload_n hx hb dX6_crossing_58 rfl (lv_at hl 1 rfl) ?_
      refine lv_iconst (v := 1) hx hb dX6_crossing_59 (by decide) ?_
      refine lv_icmp_ne (tgt := 76) hx hb dX6_crossing_60 (by decide) (fun c3 => ?_) (fun c3 => ?_)
      · refine lv_iconst (v := 0) hx hb dX6_crossing_76 (by decide) ?_
        have hP9 := hP.sub (ws' := [(ma, .inr (6, mo_ th zk zp za zb zx zy sn zf zt zw zm zh x0 y0 dx dy zz cu zo zu)), (zm, .inl (cI, 9, .inl mx))]) [0, 1] rfl
        have hD9 := hD.sub (ws' := [(ma, .inr (6, mo_ th zk zp za zb zx zy sn zf zt zw zm zh x0 y0 dx dy zz cu zo zu)), (zm, .inl (cI, 9, .inl mx))]) [0, 1] (by decide) rfl
        exact W.zret (v := 0) (ty := .boolean) hx hb hr (by decide +kernel) (fun t ht hW => ⟨⟨0, (), rfl, by unfold crg_; rw [if_neg (Int32.not_lt.mpr c1), if_neg (Int32.not_lt.mpr c2), if_neg (fun h => c3 h.1)], by rw [ht]; exact hP9, va_K.moved hW.alike hK, hD9⟩, hS.F ht⟩) hS.2.2 dX6_crossing_77
      · refine lv_aload_n hx hb dX6_crossing_63 rfl (lv_at hl 0 rfl) ?_
        refine va_get (D := g) (ci := 6) (v := .ref zm) (C := RX6) (T := TX6) (N := 21) hx hb hts hiX6 hown hK hP 0 rfl rfl 11 (by decide) (hts (.fieldLink RX6 37 "ShapeRelatorModel" "matrix" "[I") (List.mem_of_getElem? (i := 1) rfl)) (fun _ h9 => h9) rfl dX6_crossing_64 ?_
        refine lv_iconst (v := 0) hx hb dX6_crossing_67 (by decide) ?_
        refine va_iald (D := g) hx hb hK hP 1 0 rfl rfl (by unfold vp_in; decide) dX6_crossing_68 ?_
        refine tpi_ (y := (mat_ mx 0 0)) rfl ?_
        refine lv_if_ne (tgt := 76) hx hb dX6_crossing_69 (by decide) (fun c4 => ?_) (fun c4 => ?_)
        · refine lv_iconst (v := 0) hx hb dX6_crossing_76 (by decide) ?_
          have hP9 := hP.sub (ws' := [(ma, .inr (6, mo_ th zk zp za zb zx zy sn zf zt zw zm zh x0 y0 dx dy zz cu zo zu)), (zm, .inl (cI, 9, .inl mx))]) [0, 1] rfl
          have hD9 := hD.sub (ws' := [(ma, .inr (6, mo_ th zk zp za zb zx zy sn zf zt zw zm zh x0 y0 dx dy zz cu zo zu)), (zm, .inl (cI, 9, .inl mx))]) [0, 1] (by decide) rfl
          exact W.zret (v := 0) (ty := .boolean) hx hb hr (by decide +kernel) (fun t ht hW => ⟨⟨0, (), rfl, by unfold crg_; rw [if_neg (Int32.not_lt.mpr c1), if_neg (Int32.not_lt.mpr c2), if_neg (fun h => c4 h.2)], by rw [ht]; exact hP9, va_K.moved hW.alike hK, hD9⟩, hS.F ht⟩) hS.2.2 dX6_crossing_77
        · refine lv_iconst (v := 1) hx hb dX6_crossing_72 (by decide) ?_
          refine lv_goto (tgt := 77) hx hb dX6_crossing_73 (by decide) ?_
          have hP9 := hP.sub (ws' := [(ma, .inr (6, mo_ th zk zp za zb zx zy sn zf zt zw zm zh x0 y0 dx dy zz cu zo zu)), (zm, .inl (cI, 9, .inl mx))]) [0, 1] rfl
          have hD9 := hD.sub (ws' := [(ma, .inr (6, mo_ th zk zp za zb zx zy sn zf zt zw zm zh x0 y0 dx dy zz cu zo zu)), (zm, .inl (cI, 9, .inl mx))]) [0, 1] (by decide) rfl
          exact W.zret (v := 1) (ty := .boolean) hx hb hr (by decide +kernel) (fun t ht hW => ⟨⟨1, (), rfl, by unfold crg_; rw [if_neg (Int32.not_lt.mpr c1), if_neg (Int32.not_lt.mpr c2), if_pos ⟨c3, c4⟩], by rw [ht]; exact hP9, va_K.moved hW.alike hK, hD9⟩, hS.F ht⟩) hS.2.2 dX6_crossing_77
    · refine lv_aload_n hx hb dX6_crossing_34 rfl (lv_at hl 0 rfl) ?_
      refine lv_iconst (v := 0) hx hb dX6_crossing_35 (by decide) ?_
      refine lv_iconst (v := 0) hx hb dX6_crossing_36 (by decide) ?_
      have hPc := hP.sub (ws' := [(ma, .inr (6, mo_ th zk zp za zb zx zy sn zf zt zw zm zh x0 y0 dx dy zz cu zo zu)), (zm, .inl (cI, 9, .inl mx))]) [0, 1] rfl
      have hDc := hD.sub (ws' := [(ma, .inr (6, mo_ th zk zp za zb zx zy sn zf zt zw zm zh x0 y0 dx dy zz cu zo zu)), (zm, .inl (cI, 9, .inl mx))]) [0, 1] (by decide) rfl
      have hFc := va_free (wc := [(ma, .inr (6, mo_ th zk zp za zb zx zy sn zf zt zw zm zh x0 y0 dx dy zz cu zo zu)), (zm, .inl (cI, 9, .inl mx))]) hD hS hA [0, 1] rfl
      refine va_calli (va_runV (As := [.int 0, .int 0]) (rest := []) ⟨hx, hb, hml, hown, hts⟩ (kX6_there l g cI cJ cZ s.heap.size ma th sn x0 y0 dx dy cu zk zp za zb zx zy zf zt zw zm zh zz zo zu mx 0 0 t3_0 t3_0) (cwV 2 hts gX6_crossing_X6_there rfl rfl rfl (by decide +kernel) ⟨Nat.le_of_ble_eq_true rfl, Nat.le_of_ble_eq_true rfl⟩) (pv_ hK hPc hDc (va_recv hK hPc (ci := 6) (q0 := 0) rfl rfl)) rfl rfl hl.1 rfl (lv_room (Nat.le_of_ble_eq_true rfl)) dX6_crossing_37 ⟨Nat.zero_le _, Nat.zero_le _⟩) hS (fun q _ h => hFc q h) hFc (fun r1 u t H1 locs ht hvm hw1 hB hz1 hk1 hS => ?_)
      obtain ⟨hP1, hK1, hD1⟩ := hB
      rw [ht] at hP1
      obtain ⟨hP, hD⟩ := va_join (wr := []) (w1 := [(ma, .inr (6, mo_ th zk zp za zb zx zy sn zf zt zw zm zh x0 y0 dx dy zz cu zo zu)), (zm, .inl (cI, 9, .inl mx))]) hP hD [0, 1] [] rfl rfl (by decide) (by decide) hk1 hFc hP1 hD1
      clear hPc hDc hFc hP1 hD1 hK1 hk1 hz1 hvm ht
      generalize H1 = H at hP hS ⊢
      have hP : va_P g vwCl [(ma, .inr (6, mo_ th zk zp za zb zx zy sn zf zt zw zm zh x0 y0 dx dy zz cu zo zu)), (zm, .inl (cI, 9, .inl mx))] H := hP
      have hD : va_D A [(ma, .inr (6, mo_ th zk zp za zb zx zy sn zf zt zw zm zh x0 y0 dx dy zz cu zo zu)), (zm, .inl (cI, 9, .inl mx))] := hD
      refine lv_if_eq (tgt := 56) hx hb dX6_crossing_40 (by decide) (fun x1 => ?_) (fun x1 => ?_)
      · refine lv_iconst (v := 0) hx hb dX6_crossing_56 (by decide) ?_
        have hP9 := hP.sub (ws' := [(ma, .inr (6, mo_ th zk zp za zb zx zy sn zf zt zw zm zh x0 y0 dx dy zz cu zo zu)), (zm, .inl (cI, 9, .inl mx))]) [0, 1] rfl
        have hD9 := hD.sub (ws' := [(ma, .inr (6, mo_ th zk zp za zb zx zy sn zf zt zw zm zh x0 y0 dx dy zz cu zo zu)), (zm, .inl (cI, 9, .inl mx))]) [0, 1] (by decide) rfl
        exact W.zret (v := 0) (ty := .boolean) hx hb hr (by decide +kernel) (fun t ht hW => ⟨⟨0, (), rfl, by unfold crg_; rw [if_neg (Int32.not_lt.mpr c1), if_pos (Int32.not_le.mp c2), if_neg (fun h => h.1 (hw1.symm.trans x1))], by rw [ht]; exact hP9, va_K.moved hW.alike hK, hD9⟩, hS.F ht⟩) hS.2.2 dX6_crossing_57
      · refine lv_aload_n hx hb dX6_crossing_43 rfl (lv_at hl 0 rfl) ?_
        refine lv_iconst (v := 2) hx hb dX6_crossing_44 (by decide) ?_
        refine lv_iconst (v := 0) hx hb dX6_crossing_45 (by decide) ?_
        have hPc := hP.sub (ws' := [(ma, .inr (6, mo_ th zk zp za zb zx zy sn zf zt zw zm zh x0 y0 dx dy zz cu zo zu)), (zm, .inl (cI, 9, .inl mx))]) [0, 1] rfl
        have hDc := hD.sub (ws' := [(ma, .inr (6, mo_ th zk zp za zb zx zy sn zf zt zw zm zh x0 y0 dx dy zz cu zo zu)), (zm, .inl (cI, 9, .inl mx))]) [0, 1] (by decide) rfl
        have hFc := va_free (wc := [(ma, .inr (6, mo_ th zk zp za zb zx zy sn zf zt zw zm zh x0 y0 dx dy zz cu zo zu)), (zm, .inl (cI, 9, .inl mx))]) hD hS hA [0, 1] rfl
        refine va_calli (va_runV (As := [.int 2, .int 0]) (rest := []) ⟨hx, hb, hml, hown, hts⟩ (kX6_there l g cI cJ cZ H.size ma th sn x0 y0 dx dy cu zk zp za zb zx zy zf zt zw zm zh zz zo zu mx 2 0 t3_2 t3_0) (cwV 2 hts gX6_crossing_X6_there rfl rfl rfl (by decide +kernel) ⟨Nat.le_of_ble_eq_true rfl, Nat.le_of_ble_eq_true rfl⟩) (pv_ hK hPc hDc (va_recv hK hPc (ci := 6) (q0 := 0) rfl rfl)) rfl rfl hl.1 rfl (lv_room (Nat.le_of_ble_eq_true rfl)) dX6_crossing_46 ⟨Nat.zero_le _, Nat.zero_le _⟩) hS (fun q _ h => hFc q h) hFc (fun r2 u t H1 locs ht hvm hw2 hB hz1 hk1 hS => ?_)
        obtain ⟨hP1, hK1, hD1⟩ := hB
        rw [ht] at hP1
        obtain ⟨hP, hD⟩ := va_join (wr := []) (w1 := [(ma, .inr (6, mo_ th zk zp za zb zx zy sn zf zt zw zm zh x0 y0 dx dy zz cu zo zu)), (zm, .inl (cI, 9, .inl mx))]) hP hD [0, 1] [] rfl rfl (by decide) (by decide) hk1 hFc hP1 hD1
        clear hPc hDc hFc hP1 hD1 hK1 hk1 hz1 hvm ht
        generalize H1 = H at hP hS ⊢
        have hP : va_P g vwCl [(ma, .inr (6, mo_ th zk zp za zb zx zy sn zf zt zw zm zh x0 y0 dx dy zz cu zo zu)), (zm, .inl (cI, 9, .inl mx))] H := hP
        have hD : va_D A [(ma, .inr (6, mo_ th zk zp za zb zx zy sn zf zt zw zm zh x0 y0 dx dy zz cu zo zu)), (zm, .inl (cI, 9, .inl mx))] := hD
        refine lv_if_eq (tgt := 56) hx hb dX6_crossing_49 (by decide) (fun x2 => ?_) (fun x2 => ?_)
        · refine lv_iconst (v := 0) hx hb dX6_crossing_56 (by decide) ?_
          have hP9 := hP.sub (ws' := [(ma, .inr (6, mo_ th zk zp za zb zx zy sn zf zt zw zm zh x0 y0 dx dy zz cu zo zu)), (zm, .inl (cI, 9, .inl mx))]) [0, 1] rfl
          have hD9 := hD.sub (ws' := [(ma, .inr (6, mo_ th zk zp za zb zx zy sn zf zt zw zm zh x0 y0 dx dy zz cu zo zu)), (zm, .inl (cI, 9, .inl mx))]) [0, 1] (by decide) rfl
          exact W.zret (v := 0) (ty := .boolean) hx hb hr (by decide +kernel) (fun t ht hW => ⟨⟨0, (), rfl, by unfold crg_; rw [if_neg (Int32.not_lt.mpr c1), if_pos (Int32.not_le.mp c2), if_neg (fun h => h.2 (hw2.symm.trans x2))], by rw [ht]; exact hP9, va_K.moved hW.alike hK, hD9⟩, hS.F ht⟩) hS.2.2 dX6_crossing_57
        · refine lv_iconst (v := 1) hx hb dX6_crossing_52 (by decide) ?_
          refine lv_goto (tgt := 57) hx hb dX6_crossing_53 (by decide) ?_
          have hP9 := hP.sub (ws' := [(ma, .inr (6, mo_ th zk zp za zb zx zy sn zf zt zw zm zh x0 y0 dx dy zz cu zo zu)), (zm, .inl (cI, 9, .inl mx))]) [0, 1] rfl
          have hD9 := hD.sub (ws' := [(ma, .inr (6, mo_ th zk zp za zb zx zy sn zf zt zw zm zh x0 y0 dx dy zz cu zo zu)), (zm, .inl (cI, 9, .inl mx))]) [0, 1] (by decide) rfl
          exact W.zret (v := 1) (ty := .boolean) hx hb hr (by decide +kernel) (fun t ht hW => ⟨⟨1, (), rfl, by unfold crg_; rw [if_neg (Int32.not_lt.mpr c1), if_pos (Int32.not_le.mp c2), if_pos ⟨fun h => x1 (hw1.trans h), fun h => x2 (hw2.trans h)⟩], by rw [ht]; exact hP9, va_K.moved hW.alike hK, hD9⟩, hS.F ht⟩) hS.2.2 dX6_crossing_57
  · refine lv_aload_n hx hb dX6_crossing_5 rfl (lv_at hl 0 rfl) ?_
    refine lv_iconst (v := 0) hx hb dX6_crossing_6 (by decide) ?_
    refine lv_iconst (v := 0) hx hb dX6_crossing_7 (by decide) ?_
    have hPc := hP.sub (ws' := [(ma, .inr (6, mo_ th zk zp za zb zx zy sn zf zt zw zm zh x0 y0 dx dy zz cu zo zu)), (zm, .inl (cI, 9, .inl mx))]) [0, 1] rfl
    have hDc := hD.sub (ws' := [(ma, .inr (6, mo_ th zk zp za zb zx zy sn zf zt zw zm zh x0 y0 dx dy zz cu zo zu)), (zm, .inl (cI, 9, .inl mx))]) [0, 1] (by decide) rfl
    have hFc := va_free (wc := [(ma, .inr (6, mo_ th zk zp za zb zx zy sn zf zt zw zm zh x0 y0 dx dy zz cu zo zu)), (zm, .inl (cI, 9, .inl mx))]) hD hS hA [0, 1] rfl
    refine va_calli (va_runV (As := [.int 0, .int 0]) (rest := []) ⟨hx, hb, hml, hown, hts⟩ (kX6_there l g cI cJ cZ s.heap.size ma th sn x0 y0 dx dy cu zk zp za zb zx zy zf zt zw zm zh zz zo zu mx 0 0 t3_0 t3_0) (cwV 2 hts gX6_crossing_X6_there rfl rfl rfl (by decide +kernel) ⟨Nat.le_of_ble_eq_true rfl, Nat.le_of_ble_eq_true rfl⟩) (pv_ hK hPc hDc (va_recv hK hPc (ci := 6) (q0 := 0) rfl rfl)) rfl rfl hl.1 rfl (lv_room (Nat.le_of_ble_eq_true rfl)) dX6_crossing_8 ⟨Nat.zero_le _, Nat.zero_le _⟩) hS (fun q _ h => hFc q h) hFc (fun r1 u t H1 locs ht hvm hw1 hB hz1 hk1 hS => ?_)
    obtain ⟨hP1, hK1, hD1⟩ := hB
    rw [ht] at hP1
    obtain ⟨hP, hD⟩ := va_join (wr := []) (w1 := [(ma, .inr (6, mo_ th zk zp za zb zx zy sn zf zt zw zm zh x0 y0 dx dy zz cu zo zu)), (zm, .inl (cI, 9, .inl mx))]) hP hD [0, 1] [] rfl rfl (by decide) (by decide) hk1 hFc hP1 hD1
    clear hPc hDc hFc hP1 hD1 hK1 hk1 hz1 hvm ht
    generalize H1 = H at hP hS ⊢
    have hP : va_P g vwCl [(ma, .inr (6, mo_ th zk zp za zb zx zy sn zf zt zw zm zh x0 y0 dx dy zz cu zo zu)), (zm, .inl (cI, 9, .inl mx))] H := hP
    have hD : va_D A [(ma, .inr (6, mo_ th zk zp za zb zx zy sn zf zt zw zm zh x0 y0 dx dy zz cu zo zu)), (zm, .inl (cI, 9, .inl mx))] := hD
    refine lv_if_eq (tgt := 27) hx hb dX6_crossing_11 (by decide) (fun x1 => ?_) (fun x1 => ?_)
    · refine lv_iconst (v := 0) hx hb dX6_crossing_27 (by decide) ?_
      have hP9 := hP.sub (ws' := [(ma, .inr (6, mo_ th zk zp za zb zx zy sn zf zt zw zm zh x0 y0 dx dy zz cu zo zu)), (zm, .inl (cI, 9, .inl mx))]) [0, 1] rfl
      have hD9 := hD.sub (ws' := [(ma, .inr (6, mo_ th zk zp za zb zx zy sn zf zt zw zm zh x0 y0 dx dy zz cu zo zu)), (zm, .inl (cI, 9, .inl mx))]) [0, 1] (by decide) rfl
      exact W.zret (v := 0) (ty := .boolean) hx hb hr (by decide +kernel) (fun t ht hW => ⟨⟨0, (), rfl, by unfold crg_; rw [if_pos (Int32.not_le.mp c1), if_neg (fun h => h.1 (hw1.symm.trans x1))], by rw [ht]; exact hP9, va_K.moved hW.alike hK, hD9⟩, hS.F ht⟩) hS.2.2 dX6_crossing_28
    · refine lv_aload_n hx hb dX6_crossing_14 rfl (lv_at hl 0 rfl) ?_
      refine lv_iconst (v := 0) hx hb dX6_crossing_15 (by decide) ?_
      refine lv_iconst (v := 2) hx hb dX6_crossing_16 (by decide) ?_
      have hPc := hP.sub (ws' := [(ma, .inr (6, mo_ th zk zp za zb zx zy sn zf zt zw zm zh x0 y0 dx dy zz cu zo zu)), (zm, .inl (cI, 9, .inl mx))]) [0, 1] rfl
      have hDc := hD.sub (ws' := [(ma, .inr (6, mo_ th zk zp za zb zx zy sn zf zt zw zm zh x0 y0 dx dy zz cu zo zu)), (zm, .inl (cI, 9, .inl mx))]) [0, 1] (by decide) rfl
      have hFc := va_free (wc := [(ma, .inr (6, mo_ th zk zp za zb zx zy sn zf zt zw zm zh x0 y0 dx dy zz cu zo zu)), (zm, .inl (cI, 9, .inl mx))]) hD hS hA [0, 1] rfl
      refine va_calli (va_runV (As := [.int 0, .int 2]) (rest := []) ⟨hx, hb, hml, hown, hts⟩ (kX6_there l g cI cJ cZ H.size ma th sn x0 y0 dx dy cu zk zp za zb zx zy zf zt zw zm zh zz zo zu mx 0 2 t3_0 t3_2) (cwV 2 hts gX6_crossing_X6_there rfl rfl rfl (by decide +kernel) ⟨Nat.le_of_ble_eq_true rfl, Nat.le_of_ble_eq_true rfl⟩) (pv_ hK hPc hDc (va_recv hK hPc (ci := 6) (q0 := 0) rfl rfl)) rfl rfl hl.1 rfl (lv_room (Nat.le_of_ble_eq_true rfl)) dX6_crossing_17 ⟨Nat.zero_le _, Nat.zero_le _⟩) hS (fun q _ h => hFc q h) hFc (fun r2 u t H1 locs ht hvm hw2 hB hz1 hk1 hS => ?_)
      obtain ⟨hP1, hK1, hD1⟩ := hB
      rw [ht] at hP1
      obtain ⟨hP, hD⟩ := va_join (wr := []) (w1 := [(ma, .inr (6, mo_ th zk zp za zb zx zy sn zf zt zw zm zh x0 y0 dx dy zz cu zo zu)), (zm, .inl (cI, 9, .inl mx))]) hP hD [0, 1] [] rfl rfl (by decide) (by decide) hk1 hFc hP1 hD1
      clear hPc hDc hFc hP1 hD1 hK1 hk1 hz1 hvm ht
      generalize H1 = H at hP hS ⊢
      have hP : va_P g vwCl [(ma, .inr (6, mo_ th zk zp za zb zx zy sn zf zt zw zm zh x0 y0 dx dy zz cu zo zu)), (zm, .inl (cI, 9, .inl mx))] H := hP
      have hD : va_D A [(ma, .inr (6, mo_ th zk zp za zb zx zy sn zf zt zw zm zh x0 y0 dx dy zz cu zo zu)), (zm, .inl (cI, 9, .inl mx))] := hD
      refine lv_if_eq (tgt := 27) hx hb dX6_crossing_20 (by decide) (fun x2 => ?_) (fun x2 => ?_)
      · refine lv_iconst (v := 0) hx hb dX6_crossing_27 (by decide) ?_
        have hP9 := hP.sub (ws' := [(ma, .inr (6, mo_ th zk zp za zb zx zy sn zf zt zw zm zh x0 y0 dx dy zz cu zo zu)), (zm, .inl (cI, 9, .inl mx))]) [0, 1] rfl
        have hD9 := hD.sub (ws' := [(ma, .inr (6, mo_ th zk zp za zb zx zy sn zf zt zw zm zh x0 y0 dx dy zz cu zo zu)), (zm, .inl (cI, 9, .inl mx))]) [0, 1] (by decide) rfl
        exact W.zret (v := 0) (ty := .boolean) hx hb hr (by decide +kernel) (fun t ht hW => ⟨⟨0, (), rfl, by unfold crg_; rw [if_pos (Int32.not_le.mp c1), if_neg (fun h => h.2 (hw2.symm.trans x2))], by rw [ht]; exact hP9, va_K.moved hW.alike hK, hD9⟩, hS.F ht⟩) hS.2.2 dX6_crossing_28
      · refine lv_iconst (v := 1) hx hb dX6_crossing_23 (by decide) ?_
        refine lv_goto (tgt := 28) hx hb dX6_crossing_24 (by decide) ?_
        have hP9 := hP.sub (ws' := [(ma, .inr (6, mo_ th zk zp za zb zx zy sn zf zt zw zm zh x0 y0 dx dy zz cu zo zu)), (zm, .inl (cI, 9, .inl mx))]) [0, 1] rfl
        have hD9 := hD.sub (ws' := [(ma, .inr (6, mo_ th zk zp za zb zx zy sn zf zt zw zm zh x0 y0 dx dy zz cu zo zu)), (zm, .inl (cI, 9, .inl mx))]) [0, 1] (by decide) rfl
        exact W.zret (v := 1) (ty := .boolean) hx hb hr (by decide +kernel) (fun t ht hW => ⟨⟨1, (), rfl, by unfold crg_; rw [if_pos (Int32.not_le.mp c1), if_pos ⟨fun h => x1 (hw1.trans h), fun h => x2 (hw2.trans h)⟩], by rw [ht]; exact hP9, va_K.moved hW.alike hK, hD9⟩, hS.F ht⟩) hS.2.2 dX6_crossing_28
end
