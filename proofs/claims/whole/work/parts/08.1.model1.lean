section
theorem ikX6_thrown_X6 : ∀ w ∈ wsX60, w ∈ wsX6_thrown := by decide +kernel
set_option maxHeartbeats 1000000 in
set_option maxRecDepth 100000 in
theorem kX6_thrown (l : Launch) (g : va_G) (cI cJ cZ : ClassId) (sz : Nat) (ma : Nat) (th : Int32) (sn : Int32) (x0 : Int64) (y0 : Int64) (dx : Int64) (dy : Int64) (cu : Int32) (zk : Nat) (zp : Nat) (za : Nat) (zb : Nat) (zx : Nat) (zy : Nat) (zf : Nat) (zt : Nat) (zw : Nat) (zm : Nat) (zh : Nat) (zz : Nat) (zo : Nat) (zu : Nat)  : Met l yX6_thrown wsX6_thrown ({ frames := 0, cells := 0, slots := 0, locals := 0 }) (pc_ g cI cJ cZ [.ref ma] [(ma, .inr (6, mo_ th zk zp za zb zx zy sn zf zt zw zm zh x0 y0 dx dy zz cu zo zu))] sz) (va_Qi (fun (r : Int32) (_ : Unit) => r = th) (fun (_ : Unit) t => wd_ g cI cJ cZ (va_A [(ma, .inr (6, mo_ th zk zp za zb zx zy sn zf zt zw zm zh x0 y0 dx dy zz cu zo zu))] sz) [(ma, .inr (6, mo_ th zk zp za zb zx zy sn zf zt zw zm zh x0 y0 dx dy zz cu zo zu))] t) (va_A [(ma, .inr (6, mo_ th zk zp za zb zx zy sn zf zt zw zm zh x0 y0 dx dy zz cu zo zu))] sz)) (0) (0) (va_A [(ma, .inr (6, mo_ th zk zp za zb zx zy sn zf zt zw zm zh x0 y0 dx dy zz cu zo zu))] sz) := by
  refine Met.ofW (cc := cX6_thrown) (maxL := 1) (ret := (some .int)) (by decide) rfl ?_
  intro p e s m args below meth c s₁ B hml hv
  obtain ⟨rfl, hsz, hP, hK, hD0⟩ := hv
  have hx := B.exec
  have hb := B.bytes
  have hr := B.returns
  have hts := atoms_spec (ws := wsX6_thrown) B.pre
  have hown : s.vm.findClass RX6 = some m.cls := findClass_of_methodNamed B.named
  have hlocks := B.notSynchronized
  subst hsz
  have hD := hD0.self (sz := s.heap.size)
  generalize hAe : va_A [(ma, .inr (6, mo_ th zk zp za zb zx zy sn zf zt zw zm zh x0 y0 dx dy zz cu zo zu))] s.heap.size = A at hD ⊢
  have hA : ∀ q : Nat, s.heap.size ≤ q → A q := fun q h => by rw [← hAe]; exact Or.inr h
  have hS : va_S A s.heap s.heap [] := va_S.rf
  have hP : va_P g vwCl [(ma, .inr (6, mo_ th zk zp za zb zx zy sn zf zt zw zm zh x0 y0 dx dy zz cu zo zu))] s.heap := hP
  have hl := lv_entry ([.ref ma]) (n := 1) (Nat.le_of_ble_eq_true rfl)
  rw [lg_entry_eq]
  generalize (lg_sl ([.ref ma]) ++ List.replicate (1 - (lg_sl ([.ref ma])).length) Slot.unset).toArray = ls at hl ⊢
  have hl : lv_has ls 1 [(0, .ref ma)] := hl
  have hH0 : s.heap = s.heap := rfl
  have hiX6 := ikX6_thrown_X6
  refine lv_aload_n hx hb dX6_thrown_0 rfl (lv_at hl 0 rfl) ?_
  refine va_get (D := g) (ci := 6) (v := .int th) (C := RX6) (T := TX6) (N := 21) hx hb hts hiX6 hown hK hP 0 rfl rfl 0 (by decide) (hts (.fieldLink RX6 54 "ShapeRelatorModel" "thrown" "I") (List.mem_of_getElem? (i := 1) rfl)) (fun _ h9 => h9) rfl dX6_thrown_1 ?_
  have hP9 := hP.sub (ws' := [(ma, .inr (6, mo_ th zk zp za zb zx zy sn zf zt zw zm zh x0 y0 dx dy zz cu zo zu))]) [0] rfl
  have hD9 := hD.sub (ws' := [(ma, .inr (6, mo_ th zk zp za zb zx zy sn zf zt zw zm zh x0 y0 dx dy zz cu zo zu))]) [0] (by decide) rfl
  exact W.iret (v := th) hx hb hr (fun t ht hW => ⟨⟨th, (), rfl, rfl, by rw [ht]; exact hP9, va_K.moved hW.alike hK, hD9⟩, hS.F ht⟩) hS.2.2 dX6_thrown_4

theorem ikX6_fail_X6 : ∀ w ∈ wsX60, w ∈ wsX6_fail := by decide +kernel
set_option maxHeartbeats 1000000 in
set_option maxRecDepth 100000 in
theorem kX6_fail (l : Launch) (g : va_G) (cI cJ cZ : ClassId) (sz : Nat) (ma : Nat) (th : Int32) (sn : Int32) (x0 : Int64) (y0 : Int64) (dx : Int64) (dy : Int64) (cu : Int32) (zk : Nat) (zp : Nat) (za : Nat) (zb : Nat) (zx : Nat) (zy : Nat) (zf : Nat) (zt : Nat) (zw : Nat) (zm : Nat) (zh : Nat) (zz : Nat) (zo : Nat) (zu : Nat) (c1 : Int32)  : Met l yX6_fail wsX6_fail ({ frames := 0, cells := 0, slots := 0, locals := 0 }) (pc_ g cI cJ cZ [.ref ma, .int c1] [(ma, .inr (6, mo_ th zk zp za zb zx zy sn zf zt zw zm zh x0 y0 dx dy zz cu zo zu))] sz) (va_Qi (fun (r : Int32) (_ : Unit) => r = 0) (fun (_ : Unit) t => wd_ g cI cJ cZ (va_A [(ma, .inr (6, mo_ th zk zp za zb zx zy sn zf zt zw zm zh x0 y0 dx dy zz cu zo zu))] sz) [(ma, .inr (6, mo_ c1 zk zp za zb zx zy sn zf zt zw zm zh x0 y0 dx dy zz cu zo zu))] t) (va_A [(ma, .inr (6, mo_ th zk zp za zb zx zy sn zf zt zw zm zh x0 y0 dx dy zz cu zo zu))] sz)) (0) (0) (va_A [(ma, .inr (6, mo_ th zk zp za zb zx zy sn zf zt zw zm zh x0 y0 dx dy zz cu zo zu))] sz) := by
  refine Met.ofW (cc := cX6_fail) (maxL := 2) (ret := (some .int)) (by decide) rfl ?_
  intro p e s m args below meth c s₁ B hml hv
  obtain ⟨rfl, hsz, hP, hK, hD0⟩ := hv
  have hx := B.exec
  have hb := B.bytes
  have hr := B.returns
  have hts := atoms_spec (ws := wsX6_fail) B.pre
  have hown : s.vm.findClass RX6 = some m.cls := findClass_of_methodNamed B.named
  have hlocks := B.notSynchronized
  subst hsz
  have hD := hD0.self (sz := s.heap.size)
  generalize hAe : va_A [(ma, .inr (6, mo_ th zk zp za zb zx zy sn zf zt zw zm zh x0 y0 dx dy zz cu zo zu))] s.heap.size = A at hD ⊢
  have hA : ∀ q : Nat, s.heap.size ≤ q → A q := fun q h => by rw [← hAe]; exact Or.inr h
  have hS : va_S A s.heap s.heap [] := va_S.rf
  have hP : va_P g vwCl [(ma, .inr (6, mo_ th zk zp za zb zx zy sn zf zt zw zm zh x0 y0 dx dy zz cu zo zu))] s.heap := hP
  have hl := lv_entry ([.ref ma, .int c1]) (n := 2) (Nat.le_of_ble_eq_true rfl)
  rw [lg_entry_eq]
  generalize (lg_sl ([.ref ma, .int c1]) ++ List.replicate (2 - (lg_sl ([.ref ma, .int c1])).length) Slot.unset).toArray = ls at hl ⊢
  have hl : lv_has ls 2 [(0, .ref ma), (1, .int c1)] := hl
  have hH0 : s.heap = s.heap := rfl
  have hiX6 := ikX6_fail_X6
  refine lv_aload_n hx hb dX6_fail_0 rfl (lv_at hl 0 rfl) ?_
  refine lv_iload_n hx hb dX6_fail_1 rfl (lv_at hl 1 rfl) ?_
  refine va_put (D := g) (ci := 6) (v := .int c1) (ty := .int) (C := RX6) (T := TX6) (N := 21) hx hb hts hiX6 tyX6 tyX6_ok nmX6 hown hK hP hD hS 0 rfl rfl 0 (by decide) (hts (.fieldLink RX6 54 "ShapeRelatorModel" "thrown" "I") (List.mem_of_getElem? (i := 1) rfl)) (fun _ h9 => h9) rfl (by decide +kernel) rfl rfl (Nat.le_of_ble_eq_true rfl) dX6_fail_2 (fun H locs hP hD hS => ?_)
  have hP : va_P g vwCl [(ma, .inr (6, mo_ c1 zk zp za zb zx zy sn zf zt zw zm zh x0 y0 dx dy zz cu zo zu))] H := hP
  have hD : va_D A [(ma, .inr (6, mo_ c1 zk zp za zb zx zy sn zf zt zw zm zh x0 y0 dx dy zz cu zo zu))] := hD
  refine lv_iconst (v := 0) hx hb dX6_fail_5 (by decide) ?_
  have hP9 := hP.sub (ws' := [(ma, .inr (6, mo_ c1 zk zp za zb zx zy sn zf zt zw zm zh x0 y0 dx dy zz cu zo zu))]) [0] rfl
  have hD9 := hD.sub (ws' := [(ma, .inr (6, mo_ c1 zk zp za zb zx zy sn zf zt zw zm zh x0 y0 dx dy zz cu zo zu))]) [0] (by decide) rfl
  exact W.iret (v := 0) hx hb hr (fun t ht hW => ⟨⟨0, (), rfl, rfl, by rw [ht]; exact hP9, va_K.moved hW.alike hK, hD9⟩, hS.F ht⟩) hS.2.2 dX6_fail_6

set_option maxHeartbeats 1000000 in
set_option maxRecDepth 100000 in
theorem kX6_within (l : Launch) (g : va_G) (cI cJ cZ : ClassId) (sz : Nat) (v : Int32) (lo : Int32) (hi : Int32)  : Met l yX6_within wsX6_within ({ frames := 0, cells := 0, slots := 0, locals := 0 }) (pc_ g cI cJ cZ [.int v, .int lo, .int hi] [] sz) (va_Qi (fun (r : Int32) (_ : Unit) => r = wi_ v lo hi) (fun (_ : Unit) t => wd_ g cI cJ cZ (va_A [] sz) [] t) (va_A [] sz)) (0) (0) (va_A [] sz) := by
  refine Met.ofW (cc := cX6_within) (maxL := 3) (ret := (some .boolean)) (by decide) rfl ?_
  intro p e s m args below meth c s₁ B hml hv
  obtain ⟨rfl, hsz, hP, hK, hD0⟩ := hv
  have hx := B.exec
  have hb := B.bytes
  have hr := B.returns
  have hts := atoms_spec (ws := wsX6_within) B.pre
  have hown : s.vm.findClass RX6 = some m.cls := findClass_of_methodNamed B.named
  have hlocks := B.notSynchronized
  subst hsz
  have hD := hD0.self (sz := s.heap.size)
  generalize hAe : va_A [] s.heap.size = A at hD ⊢
  have hA : ∀ q : Nat, s.heap.size ≤ q → A q := fun q h => by rw [← hAe]; exact Or.inr h
  have hS : va_S A s.heap s.heap [] := va_S.rf
  have hP : va_P g vwCl [] s.heap := hP
  have hl := lv_entry ([.int v, .int lo, .int hi]) (n := 3) (Nat.le_of_ble_eq_true rfl)
  rw [lg_entry_eq]
  generalize (lg_sl ([.int v, .int lo, .int hi]) ++ List.replicate (3 - (lg_sl ([.int v, .int lo, .int hi])).length) Slot.unset).toArray = ls at hl ⊢
  have hl : lv_has ls 3 [(0, .int v), (1, .int lo), (2, .int hi)] := hl
  have hH0 : s.heap = s.heap := rfl
  refine lv_iload_n hx hb dX6_within_0 rfl (lv_at hl 0 rfl) ?_
  refine lv_iload_n hx hb dX6_within_1 rfl (lv_at hl 1 rfl) ?_
  refine lv_icmp_lt (tgt := 14) hx hb dX6_within_2 (by decide) (fun c1 => ?_) (fun c1 => ?_)
  · refine lv_iconst (v := 0) hx hb dX6_within_14 (by decide) ?_
    have hP9 := hP.sub (ws' := []) [] rfl
    have hD9 := hD.sub (ws' := []) [] (by decide) rfl
    exact W.zret (v := 0) (ty := .boolean) hx hb hr (by decide +kernel) (fun t ht hW => ⟨⟨0, (), rfl, wi1_ c1, by rw [ht]; exact hP9, va_K.moved hW.alike hK, hD9⟩, hS.F ht⟩) hS.2.2 dX6_within_15
  · refine lv_iload_n hx hb dX6_within_5 rfl (lv_at hl 0 rfl) ?_
    refine lv_iload_n hx hb dX6_within_6 rfl (lv_at hl 2 rfl) ?_
    refine lv_icmp_gt (tgt := 14) hx hb dX6_within_7 (by decide) (fun c2 => ?_) (fun c2 => ?_)
    · refine lv_iconst (v := 0) hx hb dX6_within_14 (by decide) ?_
      have hP9 := hP.sub (ws' := []) [] rfl
      have hD9 := hD.sub (ws' := []) [] (by decide) rfl
      exact W.zret (v := 0) (ty := .boolean) hx hb hr (by decide +kernel) (fun t ht hW => ⟨⟨0, (), rfl, wi2_ c2, by rw [ht]; exact hP9, va_K.moved hW.alike hK, hD9⟩, hS.F ht⟩) hS.2.2 dX6_within_15
    · refine lv_iconst (v := 1) hx hb dX6_within_10 (by decide) ?_
      refine lv_goto (tgt := 15) hx hb dX6_within_11 (by decide) ?_
      have hP9 := hP.sub (ws' := []) [] rfl
      have hD9 := hD.sub (ws' := []) [] (by decide) rfl
      exact W.zret (v := 1) (ty := .boolean) hx hb hr (by decide +kernel) (fun t ht hW => ⟨⟨1, (), rfl, wi3_ c1 c2, by rw [ht]; exact hP9, va_K.moved hW.alike hK, hD9⟩, hS.F ht⟩) hS.2.2 dX6_within_15

set_option maxHeartbeats 1000000 in
set_option maxRecDepth 100000 in
theorem kX6_isFar (l : Launch) (g : va_G) (cI cJ cZ : ClassId) (sz : Nat) (v : Int32)  : Met l yX6_isFar wsX6_isFar ({ frames := 1, cells := 0, slots := 0, locals := 22 }) (pc_ g cI cJ cZ [.int v] [] sz) (va_Qi (fun (r : Int32) (_ : Unit) => r = far_ v) (fun (_ : Unit) t => wd_ g cI cJ cZ (va_A [] sz) [] t) (va_A [] sz)) (0) (0) (va_A [] sz) := by
  refine Met.ofW (cc := cX6_isFar) (maxL := 1) (ret := (some .boolean)) (by decide) rfl ?_
  intro p e s m args below meth c s₁ B hml hv
  obtain ⟨rfl, hsz, hP, hK, hD0⟩ := hv
  have hx := B.exec
  have hb := B.bytes
  have hr := B.returns
  have hts := atoms_spec (ws := wsX6_isFar) B.pre
  have hown : s.vm.findClass RX6 = some m.cls := findClass_of_methodNamed B.named
  have hlocks := B.notSynchronized
  subst hsz
  have hD := hD0.self (sz := s.heap.size)
  generalize hAe : va_A [] s.heap.size = A at hD ⊢
  have hA : ∀ q : Nat, s.heap.size ≤ q → A q := fun q h => by rw [← hAe]; exact Or.inr h
  have hS : va_S A s.heap s.heap [] := va_S.rf
  have hP : va_P g vwCl [] s.heap := hP
  have hl := lv_entry ([.int v]) (n := 1) (Nat.le_of_ble_eq_true rfl)
  rw [lg_entry_eq]
  generalize (lg_sl ([.int v]) ++ List.replicate (1 - (lg_sl ([.int v])).length) Slot.unset).toArray = ls at hl ⊢
  have hl : lv_has ls 1 [(0, .int v)] := hl
  have hH0 : s.heap = s.heap := rfl
  refine lv_iload_n hx hb dX6_isFar_0 rfl (lv_at hl 0 rfl) ?_
  refine lv_ldc (v := (-500000000)) hx hb hown (hts (.constant RX6 58 (-500000000)) (List.mem_of_getElem? (i := 1) rfl)) dX6_isFar_1 ?_
  refine lv_ldc (v := 500000000) hx hb hown (hts (.constant RX6 59 (500000000)) (List.mem_of_getElem? (i := 2) rfl)) dX6_isFar_3 ?_
  have hPc := hP.sub (ws' := []) [] rfl
  have hDc := hD.sub (ws' := []) [] (by decide) rfl
  have hFc := va_free (wc := []) hD hS hA [] rfl
  refine va_calli (va_runS (As := [.int v, .int (-500000000), .int 500000000]) (rest := []) ⟨hx, hb, hml, hown, hts⟩ (kX6_within l g cI cJ cZ s.heap.size v (-500000000) 500000000) (va_cwS 3 hts gX6_isFar_X6_within rfl rfl rfl (by decide +kernel) ⟨Nat.le_of_ble_eq_true rfl, Nat.le_of_ble_eq_true rfl⟩) (ps_ hK hPc hDc) rfl rfl hl.1 rfl (lv_room (Nat.le_of_ble_eq_true rfl)) dX6_isFar_5 ⟨Nat.zero_le _, Nat.zero_le _⟩) hS (fun q _ h => hFc q h) hFc (fun r1 u t H1 locs ht hvm hw1 hB hz1 hk1 hS => ?_)
  obtain ⟨hP1, hK1, hD1⟩ := hB
  rw [ht] at hP1
  obtain ⟨hP, hD⟩ := va_join (wr := []) (w1 := []) hP hD [] [] rfl rfl (by decide) (by decide) hk1 hFc hP1 hD1
  clear hPc hDc hFc hP1 hD1 hK1 hk1 hz1 hvm ht
  generalize H1 = H at hP hS ⊢
  have hP : va_P g vwCl [] H := hP
  have hD : va_D A [] := hD
  refine lv_if_ne (tgt := 15) hx hb dX6_isFar_8 (by decide) (fun c1 => ?_) (fun c1 => ?_)
  · refine lv_iconst (v := 0) hx hb dX6_isFar_15 (by decide) ?_
    have hP9 := hP.sub (ws' := []) [] rfl
    have hD9 := hD.sub (ws' := []) [] (by decide) rfl
    exact W.zret (v := 0) (ty := .boolean) hx hb hr (by decide +kernel) (fun t ht hW => ⟨⟨0, (), rfl, by unfold far_; rw [if_neg (by rw [← hw1]; exact c1)], by rw [ht]; exact hP9, va_K.moved hW.alike hK, hD9⟩, hS.F ht⟩) hS.2.2 dX6_isFar_16
  · refine lv_iconst (v := 1) hx hb dX6_isFar_11 (by decide) ?_
    refine lv_goto (tgt := 16) hx hb dX6_isFar_12 (by decide) ?_
    have hP9 := hP.sub (ws' := []) [] rfl
    have hD9 := hD.sub (ws' := []) [] (by decide) rfl
    exact W.zret (v := 1) (ty := .boolean) hx hb hr (by decide +kernel) (fun t ht hW => ⟨⟨1, (), rfl, by unfold far_; rw [if_pos (by rw [← hw1]; exact c1)], by rw [ht]; exact hP9, va_K.moved hW.alike hK, hD9⟩, hS.F ht⟩) hS.2.2 dX6_isFar_16

set_option maxHeartbeats 1000000 in
set_option maxRecDepth 100000 in
theorem kX6_isShape (l : Launch) (g : va_G) (cI cJ cZ : ClassId) (sz : Nat) (v : Int32)  : Met l yX6_isShape wsX6_isShape ({ frames := 1, cells := 0, slots := 0, locals := 22 }) (pc_ g cI cJ cZ [.int v] [] sz) (va_Qi (fun (r : Int32) (_ : Unit) => r = wi_ v 0 1) (fun (_ : Unit) t => wd_ g cI cJ cZ (va_A [] sz) [] t) (va_A [] sz)) (0) (0) (va_A [] sz) := by
  refine Met.ofW (cc := cX6_isShape) (maxL := 1) (ret := (some .boolean)) (by decide) rfl ?_
  intro p e s m args below meth c s₁ B hml hv
  obtain ⟨rfl, hsz, hP, hK, hD0⟩ := hv
  have hx := B.exec
  have hb := B.bytes
  have hr := B.returns
  have hts := atoms_spec (ws := wsX6_isShape) B.pre
  have hown : s.vm.findClass RX6 = some m.cls := findClass_of_methodNamed B.named
  have hlocks := B.notSynchronized
  subst hsz
  have hD := hD0.self (sz := s.heap.size)
  generalize hAe : va_A [] s.heap.size = A at hD ⊢
  have hA : ∀ q : Nat, s.heap.size ≤ q → A q := fun q h => by rw [← hAe]; exact Or.inr h
  have hS : va_S A s.heap s.heap [] := va_S.rf
  have hP : va_P g vwCl [] s.heap := hP
  have hl := lv_entry ([.int v]) (n := 1) (Nat.le_of_ble_eq_true rfl)
  rw [lg_entry_eq]
  generalize (lg_sl ([.int v]) ++ List.replicate (1 - (lg_sl ([.int v])).length) Slot.unset).toArray = ls at hl ⊢
  have hl : lv_has ls 1 [(0, .int v)] := hl
  have hH0 : s.heap = s.heap := rfl
  refine lv_iload_n hx hb dX6_isShape_0 rfl (lv_at hl 0 rfl) ?_
  refine lv_iconst (v := 0) hx hb dX6_isShape_1 (by decide) ?_
  refine lv_iconst (v := 1) hx hb dX6_isShape_2 (by decide) ?_
  have hPc := hP.sub (ws' := []) [] rfl
  have hDc := hD.sub (ws' := []) [] (by decide) rfl
  have hFc := va_free (wc := []) hD hS hA [] rfl
  refine va_calli (va_runS (As := [.int v, .int 0, .int 1]) (rest := []) ⟨hx, hb, hml, hown, hts⟩ (kX6_within l g cI cJ cZ s.heap.size v 0 1) (va_cwS 3 hts gX6_isShape_X6_within rfl rfl rfl (by decide +kernel) ⟨Nat.le_of_ble_eq_true rfl, Nat.le_of_ble_eq_true rfl⟩) (ps_ hK hPc hDc) rfl rfl hl.1 rfl (lv_room (Nat.le_of_ble_eq_true rfl)) dX6_isShape_3 ⟨Nat.zero_le _, Nat.zero_le _⟩) hS (fun q _ h => hFc q h) hFc (fun r1 u t H1 locs ht hvm hw1 hB hz1 hk1 hS => ?_)
  obtain ⟨hP1, hK1, hD1⟩ := hB
  rw [ht] at hP1
  obtain ⟨hP, hD⟩ := va_join (wr := []) (w1 := []) hP hD [] [] rfl rfl (by decide) (by decide) hk1 hFc hP1 hD1
  clear hPc hDc hFc hP1 hD1 hK1 hk1 hz1 hvm ht
  generalize H1 = H at hP hS ⊢
  have hP : va_P g vwCl [] H := hP
  have hD : va_D A [] := hD
  have hnz : narrow .boolean (.int r1) = .int r1 := by rw [hw1]; exact wi_z
  have hP9 := hP.sub (ws' := []) [] rfl
  have hD9 := hD.sub (ws' := []) [] (by decide) rfl
  exact W.zret (v := r1) (ty := .boolean) hx hb hr hnz (fun t ht hW => ⟨⟨r1, (), rfl, hw1, by rw [ht]; exact hP9, va_K.moved hW.alike hK, hD9⟩, hS.F ht⟩) hS.2.2 dX6_isShape_6

theorem ikX6_clear_X6 : ∀ w ∈ wsX60, w ∈ wsX6_clear := by decide +kernel
set_option maxHeartbeats 1000000 in
set_option maxRecDepth 100000 in
theorem kX6_clear (l : Launch) (g : va_G) (cI cJ cZ : ClassId) (sz : Nat) (ma : Nat) (th : Int32) (sn : Int32) (x0 : Int64) (y0 : Int64) (dx : Int64) (dy : Int64) (cu : Int32) (zk : Nat) (zp : Nat) (za : Nat) (zb : Nat) (zx : Nat) (zy : Nat) (zf : Nat) (zt : Nat) (zw : Nat) (zm : Nat) (zh : Nat) (zz : Nat) (zo : Nat) (zu : Nat) (z : Nat → Int64) (rr : Nat) (h1 : rr < 12) : Met l yX6_clear wsX6_clear ({ frames := 0, cells := 0, slots := 0, locals := 0 }) (pc_ g cI cJ cZ [.ref ma, .int (nI rr)] [(ma, .inr (6, mo_ th zk zp za zb zx zy sn zf zt zw zm zh x0 y0 dx dy zz cu zo zu)), (zz, .inl (cJ, 192, .inr (.inl z)))] sz) (va_Qv (fun (_ : Unit) => True) (fun (_ : Unit) t => wd_ g cI cJ cZ (va_A [(ma, .inr (6, mo_ th zk zp za zb zx zy sn zf zt zw zm zh x0 y0 dx dy zz cu zo zu)), (zz, .inl (cJ, 192, .inr (.inl z)))] sz) [(ma, .inr (6, mo_ th zk zp za zb zx zy sn zf zt zw zm zh x0 y0 dx dy zz cu zo zu)), (zz, .inl (cJ, 192, .inr (.inl (cl_ z (16 * rr) 16))))] t) (va_A [(ma, .inr (6, mo_ th zk zp za zb zx zy sn zf zt zw zm zh x0 y0 dx dy zz cu zo zu)), (zz, .inl (cJ, 192, .inr (.inl z)))] sz)) (0) (0) (va_A [(ma, .inr (6, mo_ th zk zp za zb zx zy sn zf zt zw zm zh x0 y0 dx dy zz cu zo zu)), (zz, .inl (cJ, 192, .inr (.inl z)))] sz) := by
  refine Met.ofW (cc := cX6_clear) (maxL := 3) (ret := none) (by decide) rfl ?_
  intro p e s m args below meth c s₁ B hml hv
  obtain ⟨rfl, hsz, hP, hK, hD0⟩ := hv
  have hx := B.exec
  have hb := B.bytes
  have hr := B.returns
  have hts := atoms_spec (ws := wsX6_clear) B.pre
  have hown : s.vm.findClass RX6 = some m.cls := findClass_of_methodNamed B.named
  have hlocks := B.notSynchronized
  subst hsz
  have hD := hD0.self (sz := s.heap.size)
  generalize hAe : va_A [(ma, .inr (6, mo_ th zk zp za zb zx zy sn zf zt zw zm zh x0 y0 dx dy zz cu zo zu)), (zz, .inl (cJ, 192, .inr (.inl z)))] s.heap.size = A at hD ⊢
  have hA : ∀ q : Nat, s.heap.size ≤ q → A q := fun q h => by rw [← hAe]; exact Or.inr h
  have hS : va_S A s.heap s.heap [] := va_S.rf
  have hP : va_P g vwCl [(ma, .inr (6, mo_ th zk zp za zb zx zy sn zf zt zw zm zh x0 y0 dx dy zz cu zo zu)), (zz, .inl (cJ, 192, .inr (.inl z)))] s.heap := hP
  have hl := lv_entry ([.ref ma, .int (nI rr)]) (n := 3) (Nat.le_of_ble_eq_true rfl)
  rw [lg_entry_eq]
  generalize (lg_sl ([.ref ma, .int (nI rr)]) ++ List.replicate (3 - (lg_sl ([.ref ma, .int (nI rr)])).length) Slot.unset).toArray = ls at hl ⊢
  have hl : lv_has ls 3 [(0, .ref ma), (1, .int (nI rr))] := hl
  have hH0 : s.heap = s.heap := rfl
  have hiX6 := ikX6_clear_X6
  refine lv_iconst (v := 0) hx hb dX6_clear_0 (by decide) ?_
  refine lv_istore_n (lv' := [(2, .int 0), (0, .ref ma), (1, .int (nI rr))]) hx hb dX6_clear_1 rfl hl (by decide) rfl (fun ls hl => ?_)
  have hz0 : cl_ z (16 * rr) 0 = z := cl_0
  rw [← hz0] at hP hD
  have hP : va_P g vwCl [(ma, .inr (6, mo_ th zk zp za zb zx zy sn zf zt zw zm zh x0 y0 dx dy zz cu zo zu)), (zz, .inl (cJ, 192, .inr (.inl (cl_ z (16 * rr) 0))))] s.heap := hP
  have hD : va_D A [(ma, .inr (6, mo_ th zk zp za zb zx zy sn zf zt zw zm zh x0 y0 dx dy zz cu zo zu)), (zz, .inl (cJ, 192, .inr (.inl (cl_ z (16 * rr) 0))))] := hD
  refine lpW (σ := Nat) (fun i => 16 - i) (fun i => 0) (fun i => 0) (fun i H locs ls => (i ≤ 16) ∧ va_P g vwCl [(ma, .inr (6, mo_ th zk zp za zb zx zy sn zf zt zw zm zh x0 y0 dx dy zz cu zo zu)), (zz, .inl (cJ, 192, .inr (.inl (cl_ z (16 * rr) i))))] H ∧ va_D A [(ma, .inr (6, mo_ th zk zp za zb zx zy sn zf zt zw zm zh x0 y0 dx dy zz cu zo zu)), (zz, .inl (cJ, 192, .inr (.inl (cl_ z (16 * rr) i))))] ∧ va_S A s.heap H locs ∧ lv_has ls 3 [(2, .int (nI i)), (0, .ref ma), (1, .int (nI rr))]) (fun x ih H locs ls hI => ?_) 0 rfl rfl ⟨Nat.zero_le _, hP, hD, hS, (lv_sub hl [0, 1, 2] rfl)⟩
  obtain ⟨i, rfl⟩ : ∃ z, z = x := ⟨_, rfl⟩
  obtain ⟨hi, hP, hD, hS, hl⟩ := hI
  have hP : va_P g vwCl [(ma, .inr (6, mo_ th zk zp za zb zx zy sn zf zt zw zm zh x0 y0 dx dy zz cu zo zu)), (zz, .inl (cJ, 192, .inr (.inl (cl_ z (16 * rr) i))))] H := hP
  have hD : va_D A [(ma, .inr (6, mo_ th zk zp za zb zx zy sn zf zt zw zm zh x0 y0 dx dy zz cu zo zu)), (zz, .inl (cJ, 192, .inr (.inl (cl_ z (16 * rr) i))))] := hD
  have hl : lv_has ls 3 [(2, .int (nI i)), (0, .ref ma), (1, .int (nI rr))] := hl
  refine lv_iload_n hx hb dX6_clear_2 rfl (lv_at hl 0 rfl) ?_
  refine lv_bipush (v := 16) hx hb dX6_clear_3 (by decide) ?_
  refine lv_icmp_ge (tgt := 26) hx hb dX6_clear_5 (by decide) (fun c1 => ?_) (fun c1 => ?_)
  · have e1 : i = 16 := by have := i_ge (b := 16) c1 (by omega) (by omega); omega
    rw [e1] at hP hD
    have hP : va_P g vwCl [(ma, .inr (6, mo_ th zk zp za zb zx zy sn zf zt zw zm zh x0 y0 dx dy zz cu zo zu)), (zz, .inl (cJ, 192, .inr (.inl (cl_ z (16 * rr) 16))))] H := hP
    have hD : va_D A [(ma, .inr (6, mo_ th zk zp za zb zx zy sn zf zt zw zm zh x0 y0 dx dy zz cu zo zu)), (zz, .inl (cJ, 192, .inr (.inl (cl_ z (16 * rr) 16))))] := hD
    have hP9 := hP.sub (ws' := [(ma, .inr (6, mo_ th zk zp za zb zx zy sn zf zt zw zm zh x0 y0 dx dy zz cu zo zu)), (zz, .inl (cJ, 192, .inr (.inl (cl_ z (16 * rr) 16))))]) [0, 1] rfl
    have hD9 := hD.sub (ws' := [(ma, .inr (6, mo_ th zk zp za zb zx zy sn zf zt zw zm zh x0 y0 dx dy zz cu zo zu)), (zz, .inl (cJ, 192, .inr (.inl (cl_ z (16 * rr) 16))))]) [0, 1] (by decide) rfl
    exact W.vret hx hb hr (fun t ht hW => ⟨⟨(), rfl, trivial, by rw [ht]; exact hP9, va_K.moved hW.alike hK, hD9⟩, hS.F ht⟩) hS.2.2 dX6_clear_26
  · have e1 : i < 16 := i_nge (b := 16) c1 (by omega) (by omega)
    refine lv_aload_n hx hb dX6_clear_8 rfl (lv_at hl 1 rfl) ?_
    refine va_get (D := g) (ci := 6) (v := .ref zz) (C := RX6) (T := TX6) (N := 21) hx hb hts hiX6 hown hK hP 0 rfl rfl 17 (by decide) (hts (.fieldLink RX6 44 "ShapeRelatorModel" "z" "[J") (List.mem_of_getElem? (i := 1) rfl)) (fun _ h9 => h9) rfl dX6_clear_9 ?_
    refine lv_bipush (v := 16) hx hb dX6_clear_12 (by decide) ?_
    refine lv_iload_n hx hb dX6_clear_14 rfl (lv_at hl 2 rfl) ?_
    refine lv_imul hx hb dX6_clear_15 ?_
    refine lv_iload_n hx hb dX6_clear_16 rfl (lv_at hl 0 rfl) ?_
    refine lv_iadd hx hb dX6_clear_17 ?_
    refine tpi_ (y := (nI (16 * rr + i))) (ix_ 16 rr i) ?_
    refine lv_lconst (v := 0) hx hb dX6_clear_18 (by decide) ?_
    refine va_last (D := g) hx hb hK hP hD hS 1 1 rfl rfl (vp_in_nI (show 16 * rr + i < 192 by omega) (by decide)) dX6_clear_19 (fun H locs hP hD hS => ?_)
    rw [nI_clamp (show 16 * rr + i < 2 ^ 31 by omega)] at hP hD
    have hP : va_P g vwCl [(ma, .inr (6, mo_ th zk zp za zb zx zy sn zf zt zw zm zh x0 y0 dx dy zz cu zo zu)), (zz, .inl (cJ, 192, .inr (.inl (vp_updL (cl_ z (16 * rr) i) (16 * rr + i) 0))))] H := hP
    have hD : va_D A [(ma, .inr (6, mo_ th zk zp za zb zx zy sn zf zt zw zm zh x0 y0 dx dy zz cu zo zu)), (zz, .inl (cJ, 192, .inr (.inl (vp_updL (cl_ z (16 * rr) i) (16 * rr + i) 0))))] := hD
    rw [cl_s] at hP hD
    have hP : va_P g vwCl [(ma, .inr (6, mo_ th zk zp za zb zx zy sn zf zt zw zm zh x0 y0 dx dy zz cu zo zu)), (zz, .inl (cJ, 192, .inr (.inl (cl_ z (16 * rr) (i + 1)))))] H := hP
    have hD : va_D A [(ma, .inr (6, mo_ th zk zp za zb zx zy sn zf zt zw zm zh x0 y0 dx dy zz cu zo zu)), (zz, .inl (cJ, 192, .inr (.inl (cl_ z (16 * rr) (i + 1)))))] := hD
    refine lv_iinc (v := (nI (i + 1))) (lv' := [(2, .int (nI (i + 1))), (0, .ref ma), (1, .int (nI rr))]) hx hb dX6_clear_20 hl (k := 0) rfl (nI_1 i) (by decide) rfl (fun ls hl => ?_)
    refine lv_goto (tgt := 2) hx hb dX6_clear_23 (by decide) ?_
    exact ih (i + 1) (by show 16 - (i + 1) < 16 - i; omega) H locs ls ⟨e1, hP, hD, hS, (lv_sub hl [0, 1, 2] rfl)⟩

theorem ikX6_settle_X6 : ∀ w ∈ wsX60, w ∈ wsX6_settle := by decide +kernel
set_option maxHeartbeats 1000000 in
set_option maxRecDepth 100000 in
theorem kX6_settle (l : Launch) (g : va_G) (cI cJ cZ : ClassId) (sz : Nat) (ma : Nat) (th : Int32) (sn : Int32) (x0 : Int64) (y0 : Int64) (dx : Int64) (dy : Int64) (cu : Int32) (zk : Nat) (zp : Nat) (za : Nat) (zb : Nat) (zx : Nat) (zy : Nat) (zf : Nat) (zt : Nat) (zw : Nat) (zm : Nat) (zh : Nat) (zz : Nat) (zo : Nat) (zu : Nat) (z : Nat → Int64) (rr : Nat) (h1 : rr < 12) : Met l yX6_settle wsX6_settle ({ frames := 0, cells := 0, slots := 0, locals := 0 }) (pc_ g cI cJ cZ [.ref ma, .int (nI rr)] [(ma, .inr (6, mo_ th zk zp za zb zx zy sn zf zt zw zm zh x0 y0 dx dy zz cu zo zu)), (zz, .inl (cJ, 192, .inr (.inl z)))] sz) (va_Qv (fun (_ : Unit) => True) (fun (_ : Unit) t => wd_ g cI cJ cZ (va_A [(ma, .inr (6, mo_ th zk zp za zb zx zy sn zf zt zw zm zh x0 y0 dx dy zz cu zo zu)), (zz, .inl (cJ, 192, .inr (.inl z)))] sz) [(ma, .inr (6, mo_ th zk zp za zb zx zy sn zf zt zw zm zh x0 y0 dx dy zz cu zo zu)), (zz, .inl (cJ, 192, .inr (.inl ((stl_ z (16 * rr) 16).1))))] t) (va_A [(ma, .inr (6, mo_ th zk zp za zb zx zy sn zf zt zw zm zh x0 y0 dx dy zz cu zo zu)), (zz, .inl (cJ, 192, .inr (.inl z)))] sz)) (0) (0) (va_A [(ma, .inr (6, mo_ th zk zp za zb zx zy sn zf zt zw zm zh x0 y0 dx dy zz cu zo zu)), (zz, .inl (cJ, 192, .inr (.inl z)))] sz) := by
  refine Met.ofW (cc := cX6_settle) (maxL := 9) (ret := none) (by decide) rfl ?_
  intro p e s m args below meth c s₁ B hml hv
  obtain ⟨rfl, hsz, hP, hK, hD0⟩ := hv
  have hx := B.exec
  have hb := B.bytes
  have hr := B.returns
  have hts := atoms_spec (ws := wsX6_settle) B.pre
  have hown : s.vm.findClass RX6 = some m.cls := findClass_of_methodNamed B.named
  have hlocks := B.notSynchronized
  subst hsz
  have hD := hD0.self (sz := s.heap.size)
  generalize hAe : va_A [(ma, .inr (6, mo_ th zk zp za zb zx zy sn zf zt zw zm zh x0 y0 dx dy zz cu zo zu)), (zz, .inl (cJ, 192, .inr (.inl z)))] s.heap.size = A at hD ⊢
  have hA : ∀ q : Nat, s.heap.size ≤ q → A q := fun q h => by rw [← hAe]; exact Or.inr h
  have hS : va_S A s.heap s.heap [] := va_S.rf
  have hP : va_P g vwCl [(ma, .inr (6, mo_ th zk zp za zb zx zy sn zf zt zw zm zh x0 y0 dx dy zz cu zo zu)), (zz, .inl (cJ, 192, .inr (.inl z)))] s.heap := hP
  have hl := lv_entry ([.ref ma, .int (nI rr)]) (n := 9) (Nat.le_of_ble_eq_true rfl)
  rw [lg_entry_eq]
  generalize (lg_sl ([.ref ma, .int (nI rr)]) ++ List.replicate (9 - (lg_sl ([.ref ma, .int (nI rr)])).length) Slot.unset).toArray = ls at hl ⊢
  have hl : lv_has ls 9 [(0, .ref ma), (1, .int (nI rr))] := hl
  have hH0 : s.heap = s.heap := rfl
  have hiX6 := ikX6_settle_X6
  refine lv_lconst (v := 0) hx hb dX6_settle_0 (by decide) ?_
  refine lv_lstore_n (lv' := [(2, .long 0), (0, .ref ma), (1, .int (nI rr))]) hx hb dX6_settle_1 rfl hl (by decide) rfl (fun ls hl => ?_)
  refine lv_bipush (v := 16) hx hb dX6_settle_2 (by decide) ?_
  refine lv_iload_n hx hb dX6_settle_4 rfl (lv_at hl 2 rfl) ?_
  refine lv_imul hx hb dX6_settle_5 ?_
  refine tpi_ (y := (nI (16 * rr + 0))) (by rw [Nat.add_zero, ← pk_mul]; rfl) ?_
  refine lv_istore (lv' := [(4, .int (nI (16 * rr + 0))), (2, .long 0), (0, .ref ma), (1, .int (nI rr))]) hx hb dX6_settle_6 hl (by decide) rfl (fun ls hl => ?_)
  refine lpW (σ := Nat) (fun i => 16 - i) (fun i => 0) (fun i => 0) (fun i H locs ls => (i ≤ 16) ∧ va_P g vwCl [(ma, .inr (6, mo_ th zk zp za zb zx zy sn zf zt zw zm zh x0 y0 dx dy zz cu zo zu)), (zz, .inl (cJ, 192, .inr (.inl ((stl_ z (16 * rr) i).1))))] H ∧ va_D A [(ma, .inr (6, mo_ th zk zp za zb zx zy sn zf zt zw zm zh x0 y0 dx dy zz cu zo zu)), (zz, .inl (cJ, 192, .inr (.inl ((stl_ z (16 * rr) i).1))))] ∧ va_S A s.heap H locs ∧ lv_has ls 9 [(4, .int (nI (16 * rr + i))), (2, .long ((stl_ z (16 * rr) i).2)), (0, .ref ma), (1, .int (nI rr))]) (fun x ih H locs ls hI => ?_) 0 rfl rfl ⟨Nat.zero_le _, hP, hD, hS, (lv_sub hl [0, 1, 2, 3] rfl)⟩
  obtain ⟨i, rfl⟩ : ∃ z, z = x := ⟨_, rfl⟩
  obtain ⟨hi, hP, hD, hS, hl⟩ := hI
  have hP : va_P g vwCl [(ma, .inr (6, mo_ th zk zp za zb zx zy sn zf zt zw zm zh x0 y0 dx dy zz cu zo zu)), (zz, .inl (cJ, 192, .inr (.inl ((stl_ z (16 * rr) i).1))))] H := hP
  have hD : va_D A [(ma, .inr (6, mo_ th zk zp za zb zx zy sn zf zt zw zm zh x0 y0 dx dy zz cu zo zu)), (zz, .inl (cJ, 192, .inr (.inl ((stl_ z (16 * rr) i).1))))] := hD
  have hl : lv_has ls 9 [(4, .int (nI (16 * rr + i))), (2, .long ((stl_ z (16 * rr) i).2)), (0, .ref ma), (1, .int (nI rr))] := hl
  refine lv_iload hx hb dX6_settle_8 (lv_at hl 0 rfl) ?_
  refine lv_bipush (v := 16) hx hb dX6_settle_10 (by decide) ?_
  refine lv_iload_n hx hb dX6_settle_12 rfl (lv_at hl 3 rfl) ?_
  refine lv_imul hx hb dX6_settle_13 ?_
  refine lv_bipush (v := 16) hx hb dX6_settle_14 (by decide) ?_
  refine lv_iadd hx hb dX6_settle_16 ?_
  refine tpi_ (y := (nI (16 * rr + 16))) (ix_ 16 rr 16) ?_
  refine lv_icmp_ge (tgt := 71) hx hb dX6_settle_17 (by decide) (fun c1 => ?_) (fun c1 => ?_)
  · have e1 : i = 16 := by have := i_ge c1 (by omega) (by omega); omega
    rw [e1] at hP hD
    have hP : va_P g vwCl [(ma, .inr (6, mo_ th zk zp za zb zx zy sn zf zt zw zm zh x0 y0 dx dy zz cu zo zu)), (zz, .inl (cJ, 192, .inr (.inl ((stl_ z (16 * rr) 16).1))))] H := hP
    have hD : va_D A [(ma, .inr (6, mo_ th zk zp za zb zx zy sn zf zt zw zm zh x0 y0 dx dy zz cu zo zu)), (zz, .inl (cJ, 192, .inr (.inl ((stl_ z (16 * rr) 16).1))))] := hD
    have hP9 := hP.sub (ws' := [(ma, .inr (6, mo_ th zk zp za zb zx zy sn zf zt zw zm zh x0 y0 dx dy zz cu zo zu)), (zz, .inl (cJ, 192, .inr (.inl ((stl_ z (16 * rr) 16).1))))]) [0, 1] rfl
    have hD9 := hD.sub (ws' := [(ma, .inr (6, mo_ th zk zp za zb zx zy sn zf zt zw zm zh x0 y0 dx dy zz cu zo zu)), (zz, .inl (cJ, 192, .inr (.inl ((stl_ z (16 * rr) 16).1))))]) [0, 1] (by decide) rfl
    exact W.vret hx hb hr (fun t ht hW => ⟨⟨(), rfl, trivial, by rw [ht]; exact hP9, va_K.moved hW.alike hK, hD9⟩, hS.F ht⟩) hS.2.2 dX6_settle_71
  · have e1 : i < 16 := by have := i_nge c1 (by omega) (by omega); omega
    refine lv_aload_n hx hb dX6_settle_20 rfl (lv_at hl 2 rfl) ?_
    refine va_get (D := g) (ci := 6) (v := .ref zz) (C := RX6) (T := TX6) (N := 21) hx hb hts hiX6 hown hK hP 0 rfl rfl 17 (by decide) (hts (.fieldLink RX6 44 "ShapeRelatorModel" "z" "[J") (List.mem_of_getElem? (i := 1) rfl)) (fun _ h9 => h9) rfl dX6_settle_21 ?_
    refine lv_iload hx hb dX6_settle_24 (lv_at hl 0 rfl) ?_
    refine va_lald (D := g) hx hb hK hP 1 1 rfl rfl (vp_in_nI (show 16 * rr + i < 192 by omega) (by omega)) dX6_settle_26 ?_
    refine tpl_ (y := ((stl_ z (16 * rr) i).1 (16 * rr + i))) (by rw [nI_clamp (by omega)]) ?_
    refine lv_lload_n hx hb dX6_settle_27 rfl (lv_at hl 1 rfl) ?_
    refine lv_ladd hx hb dX6_settle_28 ?_
    refine lv_lstore (lv' := [(5, .long (((stl_ z (16 * rr) i).1 (16 * rr + i)) + ((stl_ z (16 * rr) i).2))), (4, .int (nI (16 * rr + i))), (2, .long ((stl_ z (16 * rr) i).2)), (0, .ref ma), (1, .int (nI rr))]) hx hb dX6_settle_29 hl (by decide) rfl (fun ls hl => ?_)
    refine lv_lload hx hb dX6_settle_31 (lv_at hl 0 rfl) ?_
    refine lv_ldc2 (v := 8388608) hx hb hown (hts (.constantLong RX6 93 (8388608)) (List.mem_of_getElem? (i := 2) rfl)) dX6_settle_33 ?_
    refine lv_ladd hx hb dX6_settle_36 ?_
    refine lv_ldc2 (v := 16777215) hx hb hown (hts (.constantLong RX6 95 (16777215)) (List.mem_of_getElem? (i := 3) rfl)) dX6_settle_37 ?_
    refine lv_land hx hb dX6_settle_40 ?_
    refine lv_ldc2 (v := 8388608) hx hb hown (hts (.constantLong RX6 93 (8388608)) (List.mem_of_getElem? (i := 2) rfl)) dX6_settle_41 ?_
    refine lv_lsub hx hb dX6_settle_44 ?_
    refine lv_lstore (lv' := [(7, .long ((((((stl_ z (16 * rr) i).1 (16 * rr + i)) + ((stl_ z (16 * rr) i).2)) + 8388608) &&& 16777215) - 8388608)), (5, .long (((stl_ z (16 * rr) i).1 (16 * rr + i)) + ((stl_ z (16 * rr) i).2))), (4, .int (nI (16 * rr + i))), (2, .long ((stl_ z (16 * rr) i).2)), (0, .ref ma), (1, .int (nI rr))]) hx hb dX6_settle_45 hl (by decide) rfl (fun ls hl => ?_)
    refine lv_aload_n hx hb dX6_settle_47 rfl (lv_at hl 4 rfl) ?_
    refine va_get (D := g) (ci := 6) (v := .ref zz) (C := RX6) (T := TX6) (N := 21) hx hb hts hiX6 hown hK hP 0 rfl rfl 17 (by decide) (hts (.fieldLink RX6 44 "ShapeRelatorModel" "z" "[J") (List.mem_of_getElem? (i := 1) rfl)) (fun _ h9 => h9) rfl dX6_settle_48 ?_
    refine lv_iload hx hb dX6_settle_51 (lv_at hl 2 rfl) ?_
    refine lv_lload hx hb dX6_settle_53 (lv_at hl 0 rfl) ?_
    refine va_last (D := g) hx hb hK hP hD hS 1 1 rfl rfl (vp_in_nI (show 16 * rr + i < 192 by omega) (by decide)) dX6_settle_55 (fun H locs hP hD hS => ?_)
    rw [nI_clamp (show 16 * rr + i < 2 ^ 31 by omega)] at hP hD
    have hP : va_P g vwCl [(ma, .inr (6, mo_ th zk zp za zb zx zy sn zf zt zw zm zh x0 y0 dx dy zz cu zo zu)), (zz, .inl (cJ, 192, .inr (.inl (vp_updL ((stl_ z (16 * rr) i).1) (16 * rr + i) ((((((stl_ z (16 * rr) i).1 (16 * rr + i)) + ((stl_ z (16 * rr) i).2)) + 8388608) &&& 16777215) - 8388608)))))] H := hP
    have hD : va_D A [(ma, .inr (6, mo_ th zk zp za zb zx zy sn zf zt zw zm zh x0 y0 dx dy zz cu zo zu)), (zz, .inl (cJ, 192, .inr (.inl (vp_updL ((stl_ z (16 * rr) i).1) (16 * rr + i) ((((((stl_ z (16 * rr) i).1 (16 * rr + i)) + ((stl_ z (16 * rr) i).2)) + 8388608) &&& 16777215) - 8388608)))))] := hD
    refine lv_lload hx hb dX6_settle_56 (lv_at hl 1 rfl) ?_
    refine lv_lload hx hb dX6_settle_58 (lv_at hl 0 rfl) ?_
    refine lv_lsub hx hb dX6_settle_60 ?_
    refine lv_bipush (v := 24) hx hb dX6_settle_61 (by decide) ?_
    refine lv_lshr hx hb dX6_settle_63 rfl ?_
    refine lv_lstore_n (lv' := [(2, .long (((((stl_ z (16 * rr) i).1 (16 * rr + i)) + ((stl_ z (16 * rr) i).2)) - ((((((stl_ z (16 * rr) i).1 (16 * rr + i)) + ((stl_ z (16 * rr) i).2)) + 8388608) &&& 16777215) - 8388608)) >>> ((24 : Int32).toInt64 &&& 63))), (7, .long ((((((stl_ z (16 * rr) i).1 (16 * rr + i)) + ((stl_ z (16 * rr) i).2)) + 8388608) &&& 16777215) - 8388608)), (5, .long (((stl_ z (16 * rr) i).1 (16 * rr + i)) + ((stl_ z (16 * rr) i).2))), (4, .int (nI (16 * rr + i))), (0, .ref ma), (1, .int (nI rr))]) hx hb dX6_settle_64 rfl hl (by decide) rfl (fun ls hl => ?_)
    have hP : va_P g vwCl [(ma, .inr (6, mo_ th zk zp za zb zx zy sn zf zt zw zm zh x0 y0 dx dy zz cu zo zu)), (zz, .inl (cJ, 192, .inr (.inl ((stl_ z (16 * rr) (i + 1)).1))))] H := hP
    have hD : va_D A [(ma, .inr (6, mo_ th zk zp za zb zx zy sn zf zt zw zm zh x0 y0 dx dy zz cu zo zu)), (zz, .inl (cJ, 192, .inr (.inl ((stl_ z (16 * rr) (i + 1)).1))))] := hD
    refine lv_iinc (v := (nI (16 * rr + (i + 1)))) (lv' := [(4, .int (nI (16 * rr + (i + 1)))), (2, .long (((((stl_ z (16 * rr) i).1 (16 * rr + i)) + ((stl_ z (16 * rr) i).2)) - ((((((stl_ z (16 * rr) i).1 (16 * rr + i)) + ((stl_ z (16 * rr) i).2)) + 8388608) &&& 16777215) - 8388608)) >>> ((24 : Int32).toInt64 &&& 63))), (7, .long ((((((stl_ z (16 * rr) i).1 (16 * rr + i)) + ((stl_ z (16 * rr) i).2)) + 8388608) &&& 16777215) - 8388608)), (5, .long (((stl_ z (16 * rr) i).1 (16 * rr + i)) + ((stl_ z (16 * rr) i).2))), (0, .ref ma), (1, .int (nI rr))]) hx hb dX6_settle_65 hl (k := 3) rfl (nI_1 (16 * rr + i)) (by decide) rfl (fun ls hl => ?_)
    refine lv_goto (tgt := 8) hx hb dX6_settle_68 (by decide) ?_
    have hl : lv_has ls 9 [(4, .int (nI (16 * rr + (i + 1)))), (2, .long ((stl_ z (16 * rr) (i + 1)).2)), (7, .long ((((((stl_ z (16 * rr) i).1 (16 * rr + i)) + ((stl_ z (16 * rr) i).2)) + 8388608) &&& 16777215) - 8388608)), (5, .long (((stl_ z (16 * rr) i).1 (16 * rr + i)) + ((stl_ z (16 * rr) i).2))), (0, .ref ma), (1, .int (nI rr))] := hl
    exact ih (i + 1) (by show 16 - (i + 1) < 16 - i; omega) H locs ls ⟨e1, hP, hD, hS, (lv_sub hl [0, 1, 4, 5] rfl)⟩

theorem ikX6_set_X6 : ∀ w ∈ wsX60, w ∈ wsX6_set := by decide +kernel
set_option maxHeartbeats 1000000 in
set_option maxRecDepth 100000 in
theorem kX6_set (l : Launch) (g : va_G) (cI cJ cZ : ClassId) (sz : Nat) (ma : Nat) (th : Int32) (sn : Int32) (x0 : Int64) (y0 : Int64) (dx : Int64) (dy : Int64) (cu : Int32) (zk : Nat) (zp : Nat) (za : Nat) (zb : Nat) (zx : Nat) (zy : Nat) (zf : Nat) (zt : Nat) (zw : Nat) (zm : Nat) (zh : Nat) (zz : Nat) (zo : Nat) (zu : Nat) (z : Nat → Int64) (rr : Nat) (v : Int64) (h1 : rr < 12) : Met l yX6_set wsX6_set ({ frames := 1, cells := 0, slots := 0, locals := 28 }) (pc_ g cI cJ cZ [.ref ma, .int (nI rr), .long v] [(ma, .inr (6, mo_ th zk zp za zb zx zy sn zf zt zw zm zh x0 y0 dx dy zz cu zo zu)), (zz, .inl (cJ, 192, .inr (.inl z)))] sz) (va_Qv (fun (_ : Unit) => True) (fun (_ : Unit) t => wd_ g cI cJ cZ (va_A [(ma, .inr (6, mo_ th zk zp za zb zx zy sn zf zt zw zm zh x0 y0 dx dy zz cu zo zu)), (zz, .inl (cJ, 192, .inr (.inl z)))] sz) [(ma, .inr (6, mo_ th zk zp za zb zx zy sn zf zt zw zm zh x0 y0 dx dy zz cu zo zu)), (zz, .inl (cJ, 192, .inr (.inl (set_ z rr v))))] t) (va_A [(ma, .inr (6, mo_ th zk zp za zb zx zy sn zf zt zw zm zh x0 y0 dx dy zz cu zo zu)), (zz, .inl (cJ, 192, .inr (.inl z)))] sz)) (0) (0) (va_A [(ma, .inr (6, mo_ th zk zp za zb zx zy sn zf zt zw zm zh x0 y0 dx dy zz cu zo zu)), (zz, .inl (cJ, 192, .inr (.inl z)))] sz) := by
  refine Met.ofW (cc := cX6_set) (maxL := 4) (ret := none) (by decide) rfl ?_
  intro p e s m args below meth c s₁ B hml hv
  obtain ⟨rfl, hsz, hP, hK, hD0⟩ := hv
  have hx := B.exec
  have hb := B.bytes
  have hr := B.returns
  have hts := atoms_spec (ws := wsX6_set) B.pre
  have hown : s.vm.findClass RX6 = some m.cls := findClass_of_methodNamed B.named
  have hlocks := B.notSynchronized
  subst hsz
  have hD := hD0.self (sz := s.heap.size)
  generalize hAe : va_A [(ma, .inr (6, mo_ th zk zp za zb zx zy sn zf zt zw zm zh x0 y0 dx dy zz cu zo zu)), (zz, .inl (cJ, 192, .inr (.inl z)))] s.heap.size = A at hD ⊢
  have hA : ∀ q : Nat, s.heap.size ≤ q → A q := fun q h => by rw [← hAe]; exact Or.inr h
  have hS : va_S A s.heap s.heap [] := va_S.rf
  have hP : va_P g vwCl [(ma, .inr (6, mo_ th zk zp za zb zx zy sn zf zt zw zm zh x0 y0 dx dy zz cu zo zu)), (zz, .inl (cJ, 192, .inr (.inl z)))] s.heap := hP
  have hl := lv_entry ([.ref ma, .int (nI rr), .long v]) (n := 4) (Nat.le_of_ble_eq_true rfl)
  rw [lg_entry_eq]
  generalize (lg_sl ([.ref ma, .int (nI rr), .long v]) ++ List.replicate (4 - (lg_sl ([.ref ma, .int (nI rr), .long v])).length) Slot.unset).toArray = ls at hl ⊢
  have hl : lv_has ls 4 [(0, .ref ma), (1, .int (nI rr)), (2, .long v)] := hl
  have hH0 : s.heap = s.heap := rfl
  have hiX6 := ikX6_set_X6
  refine lv_aload_n hx hb dX6_set_0 rfl (lv_at hl 0 rfl) ?_
  refine lv_iload_n hx hb dX6_set_1 rfl (lv_at hl 1 rfl) ?_
  have hPc := hP.sub (ws' := [(ma, .inr (6, mo_ th zk zp za zb zx zy sn zf zt zw zm zh x0 y0 dx dy zz cu zo zu)), (zz, .inl (cJ, 192, .inr (.inl z)))]) [0, 1] rfl
  have hDc := hD.sub (ws' := [(ma, .inr (6, mo_ th zk zp za zb zx zy sn zf zt zw zm zh x0 y0 dx dy zz cu zo zu)), (zz, .inl (cJ, 192, .inr (.inl z)))]) [0, 1] (by decide) rfl
  have hFc := va_free (wc := [(ma, .inr (6, mo_ th zk zp za zb zx zy sn zf zt zw zm zh x0 y0 dx dy zz cu zo zu)), (zz, .inl (cJ, 192, .inr (.inl z)))]) hD hS hA [0, 1] rfl
  refine va_callv (va_runV (As := [.int (nI rr)]) (rest := []) ⟨hx, hb, hml, hown, hts⟩ (kX6_clear l g cI cJ cZ s.heap.size ma th sn x0 y0 dx dy cu zk zp za zb zx zy zf zt zw zm zh zz zo zu z rr h1) (cwV 1 hts gX6_set_X6_clear rfl rfl rfl (by decide +kernel) ⟨Nat.le_of_ble_eq_true rfl, Nat.le_of_ble_eq_true rfl⟩) (pv_ hK hPc hDc (va_recv hK hPc (ci := 6) (q0 := 0) rfl rfl)) rfl rfl hl.1 rfl (lv_room (Nat.le_of_ble_eq_true rfl)) dX6_set_2 ⟨Nat.zero_le _, Nat.zero_le _⟩) hS (fun q _ h => hFc q h) hFc (fun u t H1 locs ht hvm hw hB hz1 hk1 hS => ?_)
  obtain ⟨hP1, hK1, hD1⟩ := hB
  rw [ht] at hP1
  obtain ⟨hP, hD⟩ := va_join (wr := []) (w1 := [(ma, .inr (6, mo_ th zk zp za zb zx zy sn zf zt zw zm zh x0 y0 dx dy zz cu zo zu)), (zz, .inl (cJ, 192, .inr (.inl (cl_ z (16 * rr) 16))))]) hP hD [0, 1] [] rfl rfl (by decide) (by decide) hk1 hFc hP1 hD1
  clear hPc hDc hFc hP1 hD1 hK1 hk1 hz1 hvm ht
  generalize H1 = H at hP hS ⊢
  have hP : va_P g vwCl [(ma, .inr (6, mo_ th zk zp za zb zx zy sn zf zt zw zm zh x0 y0 dx dy zz cu zo zu)), (zz, .inl (cJ, 192, .inr (.inl (cl_ z (16 * rr) 16))))] H := hP
  have hD : va_D A [(ma, .inr (6, mo_ th zk zp za zb zx zy sn zf zt zw zm zh x0 y0 dx dy zz cu zo zu)), (zz, .inl (cJ, 192, .inr (.inl (cl_ z (16 * rr) 16))))] := hD
  refine lv_aload_n hx hb dX6_set_5 rfl (lv_at hl 0 rfl) ?_
  refine va_get (D := g) (ci := 6) (v := .ref zz) (C := RX6) (T := TX6) (N := 21) hx hb hts hiX6 hown hK hP 0 rfl rfl 17 (by decide) (hts (.fieldLink RX6 44 "ShapeRelatorModel" "z" "[J") (List.mem_of_getElem? (i := 1) rfl)) (fun _ h9 => h9) rfl dX6_set_6 ?_
  refine lv_bipush (v := 16) hx hb dX6_set_9 (by decide) ?_
  refine lv_iload_n hx hb dX6_set_11 rfl (lv_at hl 1 rfl) ?_
  refine lv_imul hx hb dX6_set_12 ?_
  refine tpi_ (y := (nI (16 * rr + 0))) (by rw [Nat.add_zero, ← pk_mul]; rfl) ?_
  refine lv_lload_n hx hb dX6_set_13 rfl (lv_at hl 2 rfl) ?_
  refine lv_ldc2 (v := 16777215) hx hb hown (hts (.constantLong RX6 95 (16777215)) (List.mem_of_getElem? (i := 2) rfl)) dX6_set_14 ?_
  refine lv_land hx hb dX6_set_17 ?_
  refine va_last (D := g) hx hb hK hP hD hS 1 1 rfl rfl (vp_in_nI (show 16 * rr + 0 < 192 by omega) (by decide)) dX6_set_18 (fun H locs hP hD hS => ?_)
  rw [nI_clamp (show 16 * rr + 0 < 2 ^ 31 by omega)] at hP hD
  have hP : va_P g vwCl [(ma, .inr (6, mo_ th zk zp za zb zx zy sn zf zt zw zm zh x0 y0 dx dy zz cu zo zu)), (zz, .inl (cJ, 192, .inr (.inl (vp_updL (cl_ z (16 * rr) 16) (16 * rr + 0) (v &&& 16777215)))))] H := hP
  have hD : va_D A [(ma, .inr (6, mo_ th zk zp za zb zx zy sn zf zt zw zm zh x0 y0 dx dy zz cu zo zu)), (zz, .inl (cJ, 192, .inr (.inl (vp_updL (cl_ z (16 * rr) 16) (16 * rr + 0) (v &&& 16777215)))))] := hD
  refine lv_aload_n hx hb dX6_set_19 rfl (lv_at hl 0 rfl) ?_
  refine va_get (D := g) (ci := 6) (v := .ref zz) (C := RX6) (T := TX6) (N := 21) hx hb hts hiX6 hown hK hP 0 rfl rfl 17 (by decide) (hts (.fieldLink RX6 44 "ShapeRelatorModel" "z" "[J") (List.mem_of_getElem? (i := 1) rfl)) (fun _ h9 => h9) rfl dX6_set_20 ?_
  refine lv_bipush (v := 16) hx hb dX6_set_23 (by decide) ?_
  refine lv_iload_n hx hb dX6_set_25 rfl (lv_at hl 1 rfl) ?_
  refine lv_imul hx hb dX6_set_26 ?_
  refine lv_iconst (v := 1) hx hb dX6_set_27 (by decide) ?_
  refine lv_iadd hx hb dX6_set_28 ?_
  refine tpi_ (y := (nI (16 * rr + 1))) (ix_ 16 rr 1) ?_
  refine lv_lload_n hx hb dX6_set_29 rfl (lv_at hl 2 rfl) ?_
  refine lv_bipush (v := 24) hx hb dX6_set_30 (by decide) ?_
  refine lv_lshr hx hb dX6_set_32 rfl ?_
  refine lv_ldc2 (v := 16777215) hx hb hown (hts (.constantLong RX6 95 (16777215)) (List.mem_of_getElem? (i := 2) rfl)) dX6_set_33 ?_
  refine lv_land hx hb dX6_set_36 ?_
  refine va_last (D := g) hx hb hK hP hD hS 1 1 rfl rfl (vp_in_nI (show 16 * rr + 1 < 192 by omega) (by decide)) dX6_set_37 (fun H locs hP hD hS => ?_)
  rw [nI_clamp (show 16 * rr + 1 < 2 ^ 31 by omega)] at hP hD
  have hP : va_P g vwCl [(ma, .inr (6, mo_ th zk zp za zb zx zy sn zf zt zw zm zh x0 y0 dx dy zz cu zo zu)), (zz, .inl (cJ, 192, .inr (.inl (vp_updL (vp_updL (cl_ z (16 * rr) 16) (16 * rr + 0) (v &&& 16777215)) (16 * rr + 1) ((v >>> ((24 : Int32).toInt64 &&& 63)) &&& 16777215)))))] H := hP
  have hD : va_D A [(ma, .inr (6, mo_ th zk zp za zb zx zy sn zf zt zw zm zh x0 y0 dx dy zz cu zo zu)), (zz, .inl (cJ, 192, .inr (.inl (vp_updL (vp_updL (cl_ z (16 * rr) 16) (16 * rr + 0) (v &&& 16777215)) (16 * rr + 1) ((v >>> ((24 : Int32).toInt64 &&& 63)) &&& 16777215)))))] := hD
  refine lv_aload_n hx hb dX6_set_38 rfl (lv_at hl 0 rfl) ?_
  refine va_get (D := g) (ci := 6) (v := .ref zz) (C := RX6) (T := TX6) (N := 21) hx hb hts hiX6 hown hK hP 0 rfl rfl 17 (by decide) (hts (.fieldLink RX6 44 "ShapeRelatorModel" "z" "[J") (List.mem_of_getElem? (i := 1) rfl)) (fun _ h9 => h9) rfl dX6_set_39 ?_
  refine lv_bipush (v := 16) hx hb dX6_set_42 (by decide) ?_
  refine lv_iload_n hx hb dX6_set_44 rfl (lv_at hl 1 rfl) ?_
  refine lv_imul hx hb dX6_set_45 ?_
  refine lv_iconst (v := 2) hx hb dX6_set_46 (by decide) ?_
  refine lv_iadd hx hb dX6_set_47 ?_
  refine tpi_ (y := (nI (16 * rr + 2))) (ix_ 16 rr 2) ?_
  refine lv_lload_n hx hb dX6_set_48 rfl (lv_at hl 2 rfl) ?_
  refine lv_bipush (v := 48) hx hb dX6_set_49 (by decide) ?_
  refine lv_lshr hx hb dX6_set_51 rfl ?_
  refine va_last (D := g) hx hb hK hP hD hS 1 1 rfl rfl (vp_in_nI (show 16 * rr + 2 < 192 by omega) (by decide)) dX6_set_52 (fun H locs hP hD hS => ?_)
  rw [nI_clamp (show 16 * rr + 2 < 2 ^ 31 by omega)] at hP hD
  have hP : va_P g vwCl [(ma, .inr (6, mo_ th zk zp za zb zx zy sn zf zt zw zm zh x0 y0 dx dy zz cu zo zu)), (zz, .inl (cJ, 192, .inr (.inl (vp_updL (vp_updL (vp_updL (cl_ z (16 * rr) 16) (16 * rr + 0) (v &&& 16777215)) (16 * rr + 1) ((v >>> ((24 : Int32).toInt64 &&& 63)) &&& 16777215)) (16 * rr + 2) (v >>> ((48 : Int32).toInt64 &&& 63))))))] H := hP
  have hD : va_D A [(ma, .inr (6, mo_ th zk zp za zb zx zy sn zf zt zw zm zh x0 y0 dx dy zz cu zo zu)), (zz, .inl (cJ, 192, .inr (.inl (vp_updL (vp_updL (vp_updL (cl_ z (16 * rr) 16) (16 * rr + 0) (v &&& 16777215)) (16 * rr + 1) ((v >>> ((24 : Int32).toInt64 &&& 63)) &&& 16777215)) (16 * rr + 2) (v >>> ((48 : Int32).toInt64 &&& 63))))))] := hD
  refine lv_aload_n hx hb dX6_set_53 rfl (lv_at hl 0 rfl) ?_
  refine lv_iload_n hx hb dX6_set_54 rfl (lv_at hl 1 rfl) ?_
  have hPc := hP.sub (ws' := [(ma, .inr (6, mo_ th zk zp za zb zx zy sn zf zt zw zm zh x0 y0 dx dy zz cu zo zu)), (zz, .inl (cJ, 192, .inr (.inl (vp_updL (vp_updL (vp_updL (cl_ z (16 * rr) 16) (16 * rr + 0) (v &&& 16777215)) (16 * rr + 1) ((v >>> ((24 : Int32).toInt64 &&& 63)) &&& 16777215)) (16 * rr + 2) (v >>> ((48 : Int32).toInt64 &&& 63))))))]) [0, 1] rfl
  have hDc := hD.sub (ws' := [(ma, .inr (6, mo_ th zk zp za zb zx zy sn zf zt zw zm zh x0 y0 dx dy zz cu zo zu)), (zz, .inl (cJ, 192, .inr (.inl (vp_updL (vp_updL (vp_updL (cl_ z (16 * rr) 16) (16 * rr + 0) (v &&& 16777215)) (16 * rr + 1) ((v >>> ((24 : Int32).toInt64 &&& 63)) &&& 16777215)) (16 * rr + 2) (v >>> ((48 : Int32).toInt64 &&& 63))))))]) [0, 1] (by decide) rfl
  have hFc := va_free (wc := [(ma, .inr (6, mo_ th zk zp za zb zx zy sn zf zt zw zm zh x0 y0 dx dy zz cu zo zu)), (zz, .inl (cJ, 192, .inr (.inl (vp_updL (vp_updL (vp_updL (cl_ z (16 * rr) 16) (16 * rr + 0) (v &&& 16777215)) (16 * rr + 1) ((v >>> ((24 : Int32).toInt64 &&& 63)) &&& 16777215)) (16 * rr + 2) (v >>> ((48 : Int32).toInt64 &&& 63))))))]) hD hS hA [0, 1] rfl
  refine va_callv (va_runV (As := [.int (nI rr)]) (rest := []) ⟨hx, hb, hml, hown, hts⟩ (kX6_settle l g cI cJ cZ H.size ma th sn x0 y0 dx dy cu zk zp za zb zx zy zf zt zw zm zh zz zo zu (vp_updL (vp_updL (vp_updL (cl_ z (16 * rr) 16) (16 * rr + 0) (v &&& 16777215)) (16 * rr + 1) ((v >>> ((24 : Int32).toInt64 &&& 63)) &&& 16777215)) (16 * rr + 2) (v >>> ((48 : Int32).toInt64 &&& 63))) rr h1) (cwV 1 hts gX6_set_X6_settle rfl rfl rfl (by decide +kernel) ⟨Nat.le_of_ble_eq_true rfl, Nat.le_of_ble_eq_true rfl⟩) (pv_ hK hPc hDc (va_recv hK hPc (ci := 6) (q0 := 0) rfl rfl)) rfl rfl hl.1 rfl (lv_room (Nat.le_of_ble_eq_true rfl)) dX6_set_55 ⟨Nat.zero_le _, Nat.zero_le _⟩) hS (fun q _ h => hFc q h) hFc (fun u t H1 locs ht hvm hw hB hz1 hk1 hS => ?_)
  obtain ⟨hP1, hK1, hD1⟩ := hB
  rw [ht] at hP1
  obtain ⟨hP, hD⟩ := va_join (wr := []) (w1 := [(ma, .inr (6, mo_ th zk zp za zb zx zy sn zf zt zw zm zh x0 y0 dx dy zz cu zo zu)), (zz, .inl (cJ, 192, .inr (.inl ((stl_ (vp_updL (vp_updL (vp_updL (cl_ z (16 * rr) 16) (16 * rr + 0) (v &&& 16777215)) (16 * rr + 1) ((v >>> ((24 : Int32).toInt64 &&& 63)) &&& 16777215)) (16 * rr + 2) (v >>> ((48 : Int32).toInt64 &&& 63))) (16 * rr) 16).1))))]) hP hD [0, 1] [] rfl rfl (by decide) (by decide) hk1 hFc hP1 hD1
  clear hPc hDc hFc hP1 hD1 hK1 hk1 hz1 hvm ht
  generalize H1 = H at hP hS ⊢
  have hP : va_P g vwCl [(ma, .inr (6, mo_ th zk zp za zb zx zy sn zf zt zw zm zh x0 y0 dx dy zz cu zo zu)), (zz, .inl (cJ, 192, .inr (.inl ((stl_ (vp_updL (vp_updL (vp_updL (cl_ z (16 * rr) 16) (16 * rr + 0) (v &&& 16777215)) (16 * rr + 1) ((v >>> ((24 : Int32).toInt64 &&& 63)) &&& 16777215)) (16 * rr + 2) (v >>> ((48 : Int32).toInt64 &&& 63))) (16 * rr) 16).1))))] H := hP
  have hD : va_D A [(ma, .inr (6, mo_ th zk zp za zb zx zy sn zf zt zw zm zh x0 y0 dx dy zz cu zo zu)), (zz, .inl (cJ, 192, .inr (.inl ((stl_ (vp_updL (vp_updL (vp_updL (cl_ z (16 * rr) 16) (16 * rr + 0) (v &&& 16777215)) (16 * rr + 1) ((v >>> ((24 : Int32).toInt64 &&& 63)) &&& 16777215)) (16 * rr + 2) (v >>> ((48 : Int32).toInt64 &&& 63))) (16 * rr) 16).1))))] := hD
  have hP9 := hP.sub (ws' := [(ma, .inr (6, mo_ th zk zp za zb zx zy sn zf zt zw zm zh x0 y0 dx dy zz cu zo zu)), (zz, .inl (cJ, 192, .inr (.inl (set_ z rr v))))]) [0, 1] rfl
  have hD9 := hD.sub (ws' := [(ma, .inr (6, mo_ th zk zp za zb zx zy sn zf zt zw zm zh x0 y0 dx dy zz cu zo zu)), (zz, .inl (cJ, 192, .inr (.inl (set_ z rr v))))]) [0, 1] (by decide) rfl
  exact W.vret hx hb hr (fun t ht hW => ⟨⟨(), rfl, trivial, by rw [ht]; exact hP9, va_K.moved hW.alike hK, hD9⟩, hS.F ht⟩) hS.2.2 dX6_set_58

theorem ikX6_product_X6 : ∀ w ∈ wsX60, w ∈ wsX6_product := by decide +kernel
set_option maxHeartbeats 1000000 in
set_option maxRecDepth 100000 in
theorem kX6_product (l : Launch) (g : va_G) (cI cJ cZ : ClassId) (sz : Nat) (ma : Nat) (th : Int32) (sn : Int32) (x0 : Int64) (y0 : Int64) (dx : Int64) (dy : Int64) (cu : Int32) (zk : Nat) (zp : Nat) (za : Nat) (zb : Nat) (zx : Nat) (zy : Nat) (zf : Nat) (zt : Nat) (zw : Nat) (zm : Nat) (zh : Nat) (zz : Nat) (zo : Nat) (zu : Nat) (z : Nat → Int64) (rr : Nat) (aa : Nat) (bb : Nat) (h1 : rr < 12) (h2 : aa < 12) (h3 : bb < 12) : Met l yX6_product wsX6_product ({ frames := 0, cells := 0, slots := 0, locals := 0 }) (pc_ g cI cJ cZ [.ref ma, .int (nI rr), .int (nI aa), .int (nI bb)] [(ma, .inr (6, mo_ th zk zp za zb zx zy sn zf zt zw zm zh x0 y0 dx dy zz cu zo zu)), (zz, .inl (cJ, 192, .inr (.inl z)))] sz) (va_Qv (fun (_ : Unit) => True) (fun (_ : Unit) t => wd_ g cI cJ cZ (va_A [(ma, .inr (6, mo_ th zk zp za zb zx zy sn zf zt zw zm zh x0 y0 dx dy zz cu zo zu)), (zz, .inl (cJ, 192, .inr (.inl z)))] sz) [(ma, .inr (6, mo_ th zk zp za zb zx zy sn zf zt zw zm zh x0 y0 dx dy zz cu zo zu)), (zz, .inl (cJ, 192, .inr (.inl (pro_ z rr aa bb 16))))] t) (va_A [(ma, .inr (6, mo_ th zk zp za zb zx zy sn zf zt zw zm zh x0 y0 dx dy zz cu zo zu)), (zz, .inl (cJ, 192, .inr (.inl z)))] sz)) (0) (0) (va_A [(ma, .inr (6, mo_ th zk zp za zb zx zy sn zf zt zw zm zh x0 y0 dx dy zz cu zo zu)), (zz, .inl (cJ, 192, .inr (.inl z)))] sz) := by
  refine Met.ofW (cc := cX6_product) (maxL := 8) (ret := none) (by decide) rfl ?_
  intro p e s m args below meth c s₁ B hml hv
  obtain ⟨rfl, hsz, hP, hK, hD0⟩ := hv
  have hx := B.exec
  have hb := B.bytes
  have hr := B.returns
  have hts := atoms_spec (ws := wsX6_product) B.pre
  have hown : s.vm.findClass RX6 = some m.cls := findClass_of_methodNamed B.named
  have hlocks := B.notSynchronized
  subst hsz
  have hD := hD0.self (sz := s.heap.size)
  generalize hAe : va_A [(ma, .inr (6, mo_ th zk zp za zb zx zy sn zf zt zw zm zh x0 y0 dx dy zz cu zo zu)), (zz, .inl (cJ, 192, .inr (.inl z)))] s.heap.size = A at hD ⊢
  have hA : ∀ q : Nat, s.heap.size ≤ q → A q := fun q h => by rw [← hAe]; exact Or.inr h
  have hS : va_S A s.heap s.heap [] := va_S.rf
  have hP : va_P g vwCl [(ma, .inr (6, mo_ th zk zp za zb zx zy sn zf zt zw zm zh x0 y0 dx dy zz cu zo zu)), (zz, .inl (cJ, 192, .inr (.inl z)))] s.heap := hP
  have hl := lv_entry ([.ref ma, .int (nI rr), .int (nI aa), .int (nI bb)]) (n := 8) (Nat.le_of_ble_eq_true rfl)
  rw [lg_entry_eq]
  generalize (lg_sl ([.ref ma, .int (nI rr), .int (nI aa), .int (nI bb)]) ++ List.replicate (8 - (lg_sl ([.ref ma, .int (nI rr), .int (nI aa), .int (nI bb)])).length) Slot.unset).toArray = ls at hl ⊢
  have hl : lv_has ls 8 [(0, .ref ma), (1, .int (nI rr)), (2, .int (nI aa)), (3, .int (nI bb))] := hl
  have hH0 : s.heap = s.heap := rfl
  have hiX6 := ikX6_product_X6
  refine lv_iconst (v := 0) hx hb dX6_product_0 (by decide) ?_
  refine lv_istore (lv' := [(4, .int 0), (0, .ref ma), (1, .int (nI rr)), (2, .int (nI aa)), (3, .int (nI bb))]) hx hb dX6_product_1 hl (by decide) rfl (fun ls hl => ?_)
  refine lpW (σ := Nat) (fun i => 16 - i) (fun i => 0) (fun i => 0) (fun i H locs ls => (i ≤ 16) ∧ va_P g vwCl [(ma, .inr (6, mo_ th zk zp za zb zx zy sn zf zt zw zm zh x0 y0 dx dy zz cu zo zu)), (zz, .inl (cJ, 192, .inr (.inl (pro_ z rr aa bb i))))] H ∧ va_D A [(ma, .inr (6, mo_ th zk zp za zb zx zy sn zf zt zw zm zh x0 y0 dx dy zz cu zo zu)), (zz, .inl (cJ, 192, .inr (.inl (pro_ z rr aa bb i))))] ∧ va_S A s.heap H locs ∧ lv_has ls 8 [(4, .int (nI i)), (0, .ref ma), (1, .int (nI rr)), (2, .int (nI aa)), (3, .int (nI bb))]) (fun x ih H locs ls hI => ?_) 0 rfl rfl ⟨Nat.zero_le _, hP, hD, hS, (lv_sub hl [0, 1, 2, 3, 4] rfl)⟩
  obtain ⟨i, rfl⟩ : ∃ z, z = x := ⟨_, rfl⟩
  obtain ⟨hi, hP, hD, hS, hl⟩ := hI
  have hP : va_P g vwCl [(ma, .inr (6, mo_ th zk zp za zb zx zy sn zf zt zw zm zh x0 y0 dx dy zz cu zo zu)), (zz, .inl (cJ, 192, .inr (.inl (pro_ z rr aa bb i))))] H := hP
  have hD : va_D A [(ma, .inr (6, mo_ th zk zp za zb zx zy sn zf zt zw zm zh x0 y0 dx dy zz cu zo zu)), (zz, .inl (cJ, 192, .inr (.inl (pro_ z rr aa bb i))))] := hD
  have hl : lv_has ls 8 [(4, .int (nI i)), (0, .ref ma), (1, .int (nI rr)), (2, .int (nI aa)), (3, .int (nI bb))] := hl
  refine lv_iload hx hb dX6_product_3 (lv_at hl 0 rfl) ?_
  refine lv_bipush (v := 16) hx hb dX6_product_5 (by decide) ?_
  refine lv_icmp_ge (tgt := 89) hx hb dX6_product_7 (by decide) (fun c1 => ?_) (fun c1 => ?_)
  · have e1 : i = 16 := by have := i_ge (b := 16) c1 (by omega) (by omega); omega
    rw [e1] at hP hD
    have hP : va_P g vwCl [(ma, .inr (6, mo_ th zk zp za zb zx zy sn zf zt zw zm zh x0 y0 dx dy zz cu zo zu)), (zz, .inl (cJ, 192, .inr (.inl (pro_ z rr aa bb 16))))] H := hP
    have hD : va_D A [(ma, .inr (6, mo_ th zk zp za zb zx zy sn zf zt zw zm zh x0 y0 dx dy zz cu zo zu)), (zz, .inl (cJ, 192, .inr (.inl (pro_ z rr aa bb 16))))] := hD
    have hP9 := hP.sub (ws' := [(ma, .inr (6, mo_ th zk zp za zb zx zy sn zf zt zw zm zh x0 y0 dx dy zz cu zo zu)), (zz, .inl (cJ, 192, .inr (.inl (pro_ z rr aa bb 16))))]) [0, 1] rfl
    have hD9 := hD.sub (ws' := [(ma, .inr (6, mo_ th zk zp za zb zx zy sn zf zt zw zm zh x0 y0 dx dy zz cu zo zu)), (zz, .inl (cJ, 192, .inr (.inl (pro_ z rr aa bb 16))))]) [0, 1] (by decide) rfl
    exact W.vret hx hb hr (fun t ht hW => ⟨⟨(), rfl, trivial, by rw [ht]; exact hP9, va_K.moved hW.alike hK, hD9⟩, hS.F ht⟩) hS.2.2 dX6_product_89
  · have e1 : i < 16 := i_nge (b := 16) c1 (by omega) (by omega)
    have ihO := ih
    refine lv_aload_n hx hb dX6_product_10 rfl (lv_at hl 1 rfl) ?_
    refine va_get (D := g) (ci := 6) (v := .ref zz) (C := RX6) (T := TX6) (N := 21) hx hb hts hiX6 hown hK hP 0 rfl rfl 17 (by decide) (hts (.fieldLink RX6 44 "ShapeRelatorModel" "z" "[J") (List.mem_of_getElem? (i := 1) rfl)) (fun _ h9 => h9) rfl dX6_product_11 ?_
    refine lv_bipush (v := 16) hx hb dX6_product_14 (by decide) ?_
    refine lv_iload_n hx hb dX6_product_16 rfl (lv_at hl 3 rfl) ?_
    refine lv_imul hx hb dX6_product_17 ?_
    refine lv_iload hx hb dX6_product_18 (lv_at hl 0 rfl) ?_
    refine lv_iadd hx hb dX6_product_20 ?_
    refine tpi_ (y := (nI (16 * aa + i))) (ix_ 16 aa i) ?_
    refine va_lald (D := g) hx hb hK hP 1 1 rfl rfl (vp_in_nI (show 16 * aa + i < 192 by omega) (by omega)) dX6_product_21 ?_
    refine tpl_ (y := (pro_ z rr aa bb i (16 * aa + i))) (by rw [nI_clamp (by omega)]) ?_
    obtain ⟨dd, edd⟩ : ∃ q, q = pro_ z rr aa bb i (16 * aa + i) := ⟨_, rfl⟩
    rw [← edd]
    refine lv_lstore (lv' := [(5, .long dd), (4, .int (nI i)), (0, .ref ma), (1, .int (nI rr)), (2, .int (nI aa)), (3, .int (nI bb))]) hx hb dX6_product_22 hl (by decide) rfl (fun ls hl => ?_)
    refine lv_iconst (v := 0) hx hb dX6_product_24 (by decide) ?_
    refine lv_istore (lv' := [(7, .int 0), (5, .long dd), (4, .int (nI i)), (0, .ref ma), (1, .int (nI rr)), (2, .int (nI aa)), (3, .int (nI bb))]) hx hb dX6_product_25 hl (by decide) rfl (fun ls hl => ?_)
    refine lpW (σ := Nat) (fun k => 16 - k) (fun k => 0) (fun k => 0) (fun k H locs ls => (k + i ≤ 16) ∧ va_P g vwCl [(ma, .inr (6, mo_ th zk zp za zb zx zy sn zf zt zw zm zh x0 y0 dx dy zz cu zo zu)), (zz, .inl (cJ, 192, .inr (.inl (prk_ (pro_ z rr aa bb i) rr i dd bb k))))] H ∧ va_D A [(ma, .inr (6, mo_ th zk zp za zb zx zy sn zf zt zw zm zh x0 y0 dx dy zz cu zo zu)), (zz, .inl (cJ, 192, .inr (.inl (prk_ (pro_ z rr aa bb i) rr i dd bb k))))] ∧ va_S A s.heap H locs ∧ lv_has ls 8 [(7, .int (nI k)), (5, .long dd), (4, .int (nI i)), (0, .ref ma), (1, .int (nI rr)), (2, .int (nI aa)), (3, .int (nI bb))]) (fun x ih H locs ls hI => ?_) 0 rfl rfl ⟨by omega, hP, hD, hS, (lv_sub hl [0, 1, 2, 3, 4, 5, 6] rfl)⟩
    obtain ⟨k, rfl⟩ : ∃ z, z = x := ⟨_, rfl⟩
    obtain ⟨hk, hP, hD, hS, hl⟩ := hI
    have hP : va_P g vwCl [(ma, .inr (6, mo_ th zk zp za zb zx zy sn zf zt zw zm zh x0 y0 dx dy zz cu zo zu)), (zz, .inl (cJ, 192, .inr (.inl (prk_ (pro_ z rr aa bb i) rr i dd bb k))))] H := hP
    have hD : va_D A [(ma, .inr (6, mo_ th zk zp za zb zx zy sn zf zt zw zm zh x0 y0 dx dy zz cu zo zu)), (zz, .inl (cJ, 192, .inr (.inl (prk_ (pro_ z rr aa bb i) rr i dd bb k))))] := hD
    have hl : lv_has ls 8 [(7, .int (nI k)), (5, .long dd), (4, .int (nI i)), (0, .ref ma), (1, .int (nI rr)), (2, .int (nI aa)), (3, .int (nI bb))] := hl
    refine lv_iload hx hb dX6_product_27 (lv_at hl 0 rfl) ?_
    refine lv_iload hx hb dX6_product_29 (lv_at hl 2 rfl) ?_
    refine lv_iadd hx hb dX6_product_31 ?_
    refine tpi_ (y := (nI (k + i))) ((nI_add _ _).symm) ?_
    refine lv_bipush (v := 16) hx hb dX6_product_32 (by decide) ?_
    refine lv_icmp_ge (tgt := 83) hx hb dX6_product_34 (by decide) (fun c2 => ?_) (fun c2 => ?_)
    · have e2 : k + i = 16 := by have := i_ge (b := 16) c2 (by omega) (by omega); omega
      have en : prk_ (pro_ z rr aa bb i) rr i dd bb k = pro_ z rr aa bb (i + 1) := by rw [pro_, ← edd]; exact pk1_ e2
      rw [en] at hP hD
      have hP : va_P g vwCl [(ma, .inr (6, mo_ th zk zp za zb zx zy sn zf zt zw zm zh x0 y0 dx dy zz cu zo zu)), (zz, .inl (cJ, 192, .inr (.inl (pro_ z rr aa bb (i + 1)))))] H := hP
      have hD : va_D A [(ma, .inr (6, mo_ th zk zp za zb zx zy sn zf zt zw zm zh x0 y0 dx dy zz cu zo zu)), (zz, .inl (cJ, 192, .inr (.inl (pro_ z rr aa bb (i + 1)))))] := hD
      refine lv_iinc (v := (nI (i + 1))) (lv' := [(4, .int (nI (i + 1))), (7, .int (nI k)), (5, .long dd), (0, .ref ma), (1, .int (nI rr)), (2, .int (nI aa)), (3, .int (nI bb))]) hx hb dX6_product_83 hl (k := 2) rfl (nI_1 i) (by decide) rfl (fun ls hl => ?_)
      refine lv_goto (tgt := 3) hx hb dX6_product_86 (by decide) ?_
      have ih := ihO
      exact ih (i + 1) (by show 16 - (i + 1) < 16 - i; omega) H locs ls ⟨e1, hP, hD, hS, (lv_sub hl [0, 3, 4, 5, 6] rfl)⟩
    · have e2 : k + i < 16 := i_nge (b := 16) c2 (by omega) (by omega)
      refine lv_lload hx hb dX6_product_37 (lv_at hl 1 rfl) ?_
      refine lv_lconst (v := 0) hx hb dX6_product_39 (by decide) ?_
      refine W.lcmp hx hb dX6_product_40 ?_
      refine lv_if_eq (tgt := 83) hx hb dX6_product_41 (by decide) (fun c3 => ?_) (fun c3 => ?_)
      · have en : prk_ (pro_ z rr aa bb i) rr i dd bb k = pro_ z rr aa bb (i + 1) := by rw [pro_, ← edd]; exact pk2_ ((lg_cmp_eq _ _).mp c3)
        rw [en] at hP hD
        have hP : va_P g vwCl [(ma, .inr (6, mo_ th zk zp za zb zx zy sn zf zt zw zm zh x0 y0 dx dy zz cu zo zu)), (zz, .inl (cJ, 192, .inr (.inl (pro_ z rr aa bb (i + 1)))))] H := hP
        have hD : va_D A [(ma, .inr (6, mo_ th zk zp za zb zx zy sn zf zt zw zm zh x0 y0 dx dy zz cu zo zu)), (zz, .inl (cJ, 192, .inr (.inl (pro_ z rr aa bb (i + 1)))))] := hD
        refine lv_iinc (v := (nI (i + 1))) (lv' := [(4, .int (nI (i + 1))), (7, .int (nI k)), (5, .long dd), (0, .ref ma), (1, .int (nI rr)), (2, .int (nI aa)), (3, .int (nI bb))]) hx hb dX6_product_83 hl (k := 2) rfl (nI_1 i) (by decide) rfl (fun ls hl => ?_)
        refine lv_goto (tgt := 3) hx hb dX6_product_86 (by decide) ?_
        have ih := ihO
        exact ih (i + 1) (by show 16 - (i + 1) < 16 - i; omega) H locs ls ⟨e1, hP, hD, hS, (lv_sub hl [0, 3, 4, 5, 6] rfl)⟩
      · refine lv_aload_n hx hb dX6_product_44 rfl (lv_at hl 3 rfl) ?_
        refine va_get (D := g) (ci := 6) (v := .ref zz) (C := RX6) (T := TX6) (N := 21) hx hb hts hiX6 hown hK hP 0 rfl rfl 17 (by decide) (hts (.fieldLink RX6 44 "ShapeRelatorModel" "z" "[J") (List.mem_of_getElem? (i := 1) rfl)) (fun _ h9 => h9) rfl dX6_product_45 ?_
        refine lv_bipush (v := 16) hx hb dX6_product_48 (by decide) ?_
        refine lv_iload_n hx hb dX6_product_50 rfl (lv_at hl 4 rfl) ?_
        refine lv_imul hx hb dX6_product_51 ?_
        refine lv_iload hx hb dX6_product_52 (lv_at hl 2 rfl) ?_
        refine lv_iadd hx hb dX6_product_54 ?_
        refine tpi_ (y := (nI (16 * rr + i))) (ix_ 16 rr i) ?_
        refine lv_iload hx hb dX6_product_55 (lv_at hl 0 rfl) ?_
        refine lv_iadd hx hb dX6_product_57 ?_
        refine tpi_ (y := (nI (16 * rr + i + k))) ((nI_add _ _).symm) ?_
        refine lv_dup2_11 hx hb dX6_product_58 rfl rfl ?_
        refine va_lald (D := g) hx hb hK hP 1 1 rfl rfl (vp_in_nI (show 16 * rr + i + k < 192 by omega) (by omega)) dX6_product_59 ?_
        refine tpl_ (y := ((prk_ (pro_ z rr aa bb i) rr i dd bb k) (16 * rr + i + k))) (by rw [nI_clamp (by omega)]) ?_
        refine lv_lload hx hb dX6_product_60 (lv_at hl 1 rfl) ?_
        refine lv_aload_n hx hb dX6_product_62 rfl (lv_at hl 3 rfl) ?_
        refine va_get (D := g) (ci := 6) (v := .ref zz) (C := RX6) (T := TX6) (N := 21) hx hb hts hiX6 hown hK hP 0 rfl rfl 17 (by decide) (hts (.fieldLink RX6 44 "ShapeRelatorModel" "z" "[J") (List.mem_of_getElem? (i := 1) rfl)) (fun _ h9 => h9) rfl dX6_product_63 ?_
        refine lv_bipush (v := 16) hx hb dX6_product_66 (by decide) ?_
        refine lv_iload_n hx hb dX6_product_68 rfl (lv_at hl 6 rfl) ?_
        refine lv_imul hx hb dX6_product_69 ?_
        refine lv_iload hx hb dX6_product_70 (lv_at hl 0 rfl) ?_
        refine lv_iadd hx hb dX6_product_72 ?_
        refine tpi_ (y := (nI (16 * bb + k))) (ix_ 16 bb k) ?_
        refine va_lald (D := g) hx hb hK hP 1 1 rfl rfl (vp_in_nI (show 16 * bb + k < 192 by omega) (by omega)) dX6_product_73 ?_
        refine tpl_ (y := ((prk_ (pro_ z rr aa bb i) rr i dd bb k) (16 * bb + k))) (by rw [nI_clamp (by omega)]) ?_
        refine lv_lmul hx hb dX6_product_74 ?_
        refine lv_ladd hx hb dX6_product_75 ?_
        refine va_last (D := g) hx hb hK hP hD hS 1 1 rfl rfl (vp_in_nI (show 16 * rr + i + k < 192 by omega) (by decide)) dX6_product_76 (fun H locs hP hD hS => ?_)
        rw [nI_clamp (show 16 * rr + i + k < 2 ^ 31 by omega)] at hP hD
        have hP : va_P g vwCl [(ma, .inr (6, mo_ th zk zp za zb zx zy sn zf zt zw zm zh x0 y0 dx dy zz cu zo zu)), (zz, .inl (cJ, 192, .inr (.inl (vp_updL (prk_ (pro_ z rr aa bb i) rr i dd bb k) (16 * rr + i + k) (((prk_ (pro_ z rr aa bb i) rr i dd bb k) (16 * rr + i + k)) + (dd * ((prk_ (pro_ z rr aa bb i) rr i dd bb k) (16 * bb + k))))))))] H := hP
        have hD : va_D A [(ma, .inr (6, mo_ th zk zp za zb zx zy sn zf zt zw zm zh x0 y0 dx dy zz cu zo zu)), (zz, .inl (cJ, 192, .inr (.inl (vp_updL (prk_ (pro_ z rr aa bb i) rr i dd bb k) (16 * rr + i + k) (((prk_ (pro_ z rr aa bb i) rr i dd bb k) (16 * rr + i + k)) + (dd * ((prk_ (pro_ z rr aa bb i) rr i dd bb k) (16 * bb + k))))))))] := hD
        have hP : va_P g vwCl [(ma, .inr (6, mo_ th zk zp za zb zx zy sn zf zt zw zm zh x0 y0 dx dy zz cu zo zu)), (zz, .inl (cJ, 192, .inr (.inl (prk_ (pro_ z rr aa bb i) rr i dd bb (k + 1)))))] H := hP
        have hD : va_D A [(ma, .inr (6, mo_ th zk zp za zb zx zy sn zf zt zw zm zh x0 y0 dx dy zz cu zo zu)), (zz, .inl (cJ, 192, .inr (.inl (prk_ (pro_ z rr aa bb i) rr i dd bb (k + 1)))))] := hD
        refine lv_iinc (v := (nI (k + 1))) (lv' := [(7, .int (nI (k + 1))), (5, .long dd), (4, .int (nI i)), (0, .ref ma), (1, .int (nI rr)), (2, .int (nI aa)), (3, .int (nI bb))]) hx hb dX6_product_77 hl (k := 0) rfl (nI_1 k) (by decide) rfl (fun ls hl => ?_)
        refine lv_goto (tgt := 27) hx hb dX6_product_80 (by decide) ?_
        exact ih (k + 1) (by show 16 - (k + 1) < 16 - k; omega) H locs ls ⟨by omega, hP, hD, hS, (lv_sub hl [0, 1, 2, 3, 4, 5, 6] rfl)⟩

theorem ikX6_signOf_X6 : ∀ w ∈ wsX60, w ∈ wsX6_signOf := by decide +kernel
set_option maxHeartbeats 1000000 in
set_option maxRecDepth 100000 in
theorem kX6_signOf (l : Launch) (g : va_G) (cI cJ cZ : ClassId) (sz : Nat) (ma : Nat) (th : Int32) (sn : Int32) (x0 : Int64) (y0 : Int64) (dx : Int64) (dy : Int64) (cu : Int32) (zk : Nat) (zp : Nat) (za : Nat) (zb : Nat) (zx : Nat) (zy : Nat) (zf : Nat) (zt : Nat) (zw : Nat) (zm : Nat) (zh : Nat) (zz : Nat) (zo : Nat) (zu : Nat) (z : Nat → Int64) (rr : Nat) (h1 : rr < 12) : Met l yX6_signOf wsX6_signOf ({ frames := 0, cells := 0, slots := 0, locals := 0 }) (pc_ g cI cJ cZ [.ref ma, .int (nI rr)] [(ma, .inr (6, mo_ th zk zp za zb zx zy sn zf zt zw zm zh x0 y0 dx dy zz cu zo zu)), (zz, .inl (cJ, 192, .inr (.inl z)))] sz) (va_Qi (fun (r : Int32) (_ : Unit) => r = sof_ z (16 * rr)) (fun (_ : Unit) t => wd_ g cI cJ cZ (va_A [(ma, .inr (6, mo_ th zk zp za zb zx zy sn zf zt zw zm zh x0 y0 dx dy zz cu zo zu)), (zz, .inl (cJ, 192, .inr (.inl z)))] sz) [(ma, .inr (6, mo_ th zk zp za zb zx zy sn zf zt zw zm zh x0 y0 dx dy zz cu zo zu)), (zz, .inl (cJ, 192, .inr (.inl z)))] t) (va_A [(ma, .inr (6, mo_ th zk zp za zb zx zy sn zf zt zw zm zh x0 y0 dx dy zz cu zo zu)), (zz, .inl (cJ, 192, .inr (.inl z)))] sz)) (0) (0) (va_A [(ma, .inr (6, mo_ th zk zp za zb zx zy sn zf zt zw zm zh x0 y0 dx dy zz cu zo zu)), (zz, .inl (cJ, 192, .inr (.inl z)))] sz) := by
  refine Met.ofW (cc := cX6_signOf) (maxL := 5) (ret := (some .int)) (by decide) rfl ?_
  intro p e s m args below meth c s₁ B hml hv
  obtain ⟨rfl, hsz, hP, hK, hD0⟩ := hv
  have hx := B.exec
  have hb := B.bytes
  have hr := B.returns
  have hts := atoms_spec (ws := wsX6_signOf) B.pre
  have hown : s.vm.findClass RX6 = some m.cls := findClass_of_methodNamed B.named
  have hlocks := B.notSynchronized
  subst hsz
  have hD := hD0.self (sz := s.heap.size)
  generalize hAe : va_A [(ma, .inr (6, mo_ th zk zp za zb zx zy sn zf zt zw zm zh x0 y0 dx dy zz cu zo zu)), (zz, .inl (cJ, 192, .inr (.inl z)))] s.heap.size = A at hD ⊢
  have hA : ∀ q : Nat, s.heap.size ≤ q → A q := fun q h => by rw [← hAe]; exact Or.inr h
  have hS : va_S A s.heap s.heap [] := va_S.rf
  have hP : va_P g vwCl [(ma, .inr (6, mo_ th zk zp za zb zx zy sn zf zt zw zm zh x0 y0 dx dy zz cu zo zu)), (zz, .inl (cJ, 192, .inr (.inl z)))] s.heap := hP
  have hl := lv_entry ([.ref ma, .int (nI rr)]) (n := 5) (Nat.le_of_ble_eq_true rfl)
  rw [lg_entry_eq]
  generalize (lg_sl ([.ref ma, .int (nI rr)]) ++ List.replicate (5 - (lg_sl ([.ref ma, .int (nI rr)])).length) Slot.unset).toArray = ls at hl ⊢
  have hl : lv_has ls 5 [(0, .ref ma), (1, .int (nI rr))] := hl
  have hH0 : s.heap = s.heap := rfl
  have hiX6 := ikX6_signOf_X6
  refine lv_bipush (v := 15) hx hb dX6_signOf_0 (by decide) ?_
  refine lv_istore_n (lv' := [(2, .int 15), (0, .ref ma), (1, .int (nI rr))]) hx hb dX6_signOf_2 rfl hl (by decide) rfl (fun ls hl => ?_)
  refine lpW (σ := Nat) (fun k => k) (fun k => 0) (fun k => 0) (fun k H locs ls => (k ≤ 15 ∧ sok_ z (16 * rr) 15 = sok_ z (16 * rr) k) ∧ va_P g vwCl [(ma, .inr (6, mo_ th zk zp za zb zx zy sn zf zt zw zm zh x0 y0 dx dy zz cu zo zu)), (zz, .inl (cJ, 192, .inr (.inl z)))] H ∧ va_D A [(ma, .inr (6, mo_ th zk zp za zb zx zy sn zf zt zw zm zh x0 y0 dx dy zz cu zo zu)), (zz, .inl (cJ, 192, .inr (.inl z)))] ∧ va_S A s.heap H locs ∧ lv_has ls 5 [(2, .int (nI k)), (0, .ref ma), (1, .int (nI rr))]) (fun x ih H locs ls hI => ?_) 15 rfl rfl ⟨⟨Nat.le_refl _, rfl⟩, hP, hD, hS, (lv_sub hl [0, 1, 2] rfl)⟩
  obtain ⟨k, rfl⟩ : ∃ z, z = x := ⟨_, rfl⟩
  obtain ⟨hi, hP, hD, hS, hl⟩ := hI
  have hP : va_P g vwCl [(ma, .inr (6, mo_ th zk zp za zb zx zy sn zf zt zw zm zh x0 y0 dx dy zz cu zo zu)), (zz, .inl (cJ, 192, .inr (.inl z)))] H := hP
  have hD : va_D A [(ma, .inr (6, mo_ th zk zp za zb zx zy sn zf zt zw zm zh x0 y0 dx dy zz cu zo zu)), (zz, .inl (cJ, 192, .inr (.inl z)))] := hD
  have hl : lv_has ls 5 [(2, .int (nI k)), (0, .ref ma), (1, .int (nI rr))] := hl
  obtain ⟨i1, i2⟩ := hi
  refine lv_iload_n hx hb dX6_signOf_3 rfl (lv_at hl 0 rfl) ?_
  refine lv_if_le (tgt := 29) hx hb dX6_signOf_4 (by decide) (fun c1 => ?_) (fun c1 => ?_)
  · have e1 : k = 0 := by rw [Int32.le_iff_toInt_le, nI_toInt (by omega)] at c1; simp at c1; omega
    have ek : sok_ z (16 * rr) 15 = k := by rw [i2]; exact by rw [e1]; rfl
    refine lv_aload_n hx hb dX6_signOf_29 rfl (lv_at hl 1 rfl) ?_
    refine va_get (D := g) (ci := 6) (v := .ref zz) (C := RX6) (T := TX6) (N := 21) hx hb hts hiX6 hown hK hP 0 rfl rfl 17 (by decide) (hts (.fieldLink RX6 44 "ShapeRelatorModel" "z" "[J") (List.mem_of_getElem? (i := 1) rfl)) (fun _ h9 => h9) rfl dX6_signOf_30 ?_
    refine lv_bipush (v := 16) hx hb dX6_signOf_33 (by decide) ?_
    refine lv_iload_n hx hb dX6_signOf_35 rfl (lv_at hl 2 rfl) ?_
    refine lv_imul hx hb dX6_signOf_36 ?_
    refine lv_iload_n hx hb dX6_signOf_37 rfl (lv_at hl 0 rfl) ?_
    refine lv_iadd hx hb dX6_signOf_38 ?_
    refine tpi_ (y := (nI (16 * rr + k))) (ix_ 16 rr k) ?_
    refine va_lald (D := g) hx hb hK hP 1 1 rfl rfl (vp_in_nI (show 16 * rr + k < 192 by omega) (by omega)) dX6_signOf_39 ?_
    refine tpl_ (y := (z (16 * rr + k))) (by rw [nI_clamp (by omega)]) ?_
    refine lv_lstore_n (lv' := [(3, .long (z (16 * rr + k))), (2, .int (nI k)), (0, .ref ma), (1, .int (nI rr))]) hx hb dX6_signOf_40 rfl hl (by decide) rfl (fun ls hl => ?_)
    refine lv_lload_n hx hb dX6_signOf_41 rfl (lv_at hl 0 rfl) ?_
    refine lv_lconst (v := 0) hx hb dX6_signOf_42 (by decide) ?_
    refine W.lcmp hx hb dX6_signOf_43 ?_
    refine lv_if_le (tgt := 51) hx hb dX6_signOf_44 (by decide) (fun c8 => ?_) (fun c8 => ?_)
    · refine lv_lload_n hx hb dX6_signOf_51 rfl (lv_at hl 0 rfl) ?_
      refine lv_lconst (v := 0) hx hb dX6_signOf_52 (by decide) ?_
      refine W.lcmp hx hb dX6_signOf_53 ?_
      refine lv_if_ge (tgt := 61) hx hb dX6_signOf_54 (by decide) (fun c9 => ?_) (fun c9 => ?_)
      · refine lv_iconst (v := 0) hx hb dX6_signOf_61 (by decide) ?_
        have hP9 := hP.sub (ws' := [(ma, .inr (6, mo_ th zk zp za zb zx zy sn zf zt zw zm zh x0 y0 dx dy zz cu zo zu)), (zz, .inl (cJ, 192, .inr (.inl z)))]) [0, 1] rfl
        have hD9 := hD.sub (ws' := [(ma, .inr (6, mo_ th zk zp za zb zx zy sn zf zt zw zm zh x0 y0 dx dy zz cu zo zu)), (zz, .inl (cJ, 192, .inr (.inl z)))]) [0, 1] (by decide) rfl
        exact W.iret (v := 0) hx hb hr (fun t ht hW => ⟨⟨0, (), rfl, by unfold sof_; rw [ek]; exact sg3_ c8 c9, by rw [ht]; exact hP9, va_K.moved hW.alike hK, hD9⟩, hS.F ht⟩) hS.2.2 dX6_signOf_62
      · refine lv_iconst (v := (-1)) hx hb dX6_signOf_57 (by decide) ?_
        refine lv_goto (tgt := 62) hx hb dX6_signOf_58 (by decide) ?_
        have hP9 := hP.sub (ws' := [(ma, .inr (6, mo_ th zk zp za zb zx zy sn zf zt zw zm zh x0 y0 dx dy zz cu zo zu)), (zz, .inl (cJ, 192, .inr (.inl z)))]) [0, 1] rfl
        have hD9 := hD.sub (ws' := [(ma, .inr (6, mo_ th zk zp za zb zx zy sn zf zt zw zm zh x0 y0 dx dy zz cu zo zu)), (zz, .inl (cJ, 192, .inr (.inl z)))]) [0, 1] (by decide) rfl
        exact W.iret (v := (-1)) hx hb hr (fun t ht hW => ⟨⟨(-1), (), rfl, by unfold sof_; rw [ek]; exact sg2_ c9, by rw [ht]; exact hP9, va_K.moved hW.alike hK, hD9⟩, hS.F ht⟩) hS.2.2 dX6_signOf_62
    · refine lv_iconst (v := 1) hx hb dX6_signOf_47 (by decide) ?_
      refine lv_goto (tgt := 62) hx hb dX6_signOf_48 (by decide) ?_
      have hP9 := hP.sub (ws' := [(ma, .inr (6, mo_ th zk zp za zb zx zy sn zf zt zw zm zh x0 y0 dx dy zz cu zo zu)), (zz, .inl (cJ, 192, .inr (.inl z)))]) [0, 1] rfl
      have hD9 := hD.sub (ws' := [(ma, .inr (6, mo_ th zk zp za zb zx zy sn zf zt zw zm zh x0 y0 dx dy zz cu zo zu)), (zz, .inl (cJ, 192, .inr (.inl z)))]) [0, 1] (by decide) rfl
      exact W.iret (v := 1) hx hb hr (fun t ht hW => ⟨⟨1, (), rfl, by unfold sof_; rw [ek]; exact sg1_ c8, by rw [ht]; exact hP9, va_K.moved hW.alike hK, hD9⟩, hS.F ht⟩) hS.2.2 dX6_signOf_62
  · have e1 : 0 < k := by rcases Nat.eq_zero_or_pos k with q | q; (· rw [q] at c1; exact absurd (by decide) c1); exact q
    refine lv_aload_n hx hb dX6_signOf_7 rfl (lv_at hl 1 rfl) ?_
    refine va_get (D := g) (ci := 6) (v := .ref zz) (C := RX6) (T := TX6) (N := 21) hx hb hts hiX6 hown hK hP 0 rfl rfl 17 (by decide) (hts (.fieldLink RX6 44 "ShapeRelatorModel" "z" "[J") (List.mem_of_getElem? (i := 1) rfl)) (fun _ h9 => h9) rfl dX6_signOf_8 ?_
    refine lv_bipush (v := 16) hx hb dX6_signOf_11 (by decide) ?_
    refine lv_iload_n hx hb dX6_signOf_13 rfl (lv_at hl 2 rfl) ?_
    refine lv_imul hx hb dX6_signOf_14 ?_
    refine lv_iload_n hx hb dX6_signOf_15 rfl (lv_at hl 0 rfl) ?_
    refine lv_iadd hx hb dX6_signOf_16 ?_
    refine tpi_ (y := (nI (16 * rr + k))) (ix_ 16 rr k) ?_
    refine va_lald (D := g) hx hb hK hP 1 1 rfl rfl (vp_in_nI (show 16 * rr + k < 192 by omega) (by omega)) dX6_signOf_17 ?_
    refine tpl_ (y := (z (16 * rr + k))) (by rw [nI_clamp (by omega)]) ?_
    refine lv_lconst (v := 0) hx hb dX6_signOf_18 (by decide) ?_
    refine W.lcmp hx hb dX6_signOf_19 ?_
    refine lv_if_ne (tgt := 29) hx hb dX6_signOf_20 (by decide) (fun c2 => ?_) (fun c2 => ?_)
    · have ek : sok_ z (16 * rr) 15 = k := by rw [i2]; exact sok_n e1 (fun h => c2 ((lg_cmp_eq _ _).mpr h))
      refine lv_aload_n hx hb dX6_signOf_29 rfl (lv_at hl 1 rfl) ?_
      refine va_get (D := g) (ci := 6) (v := .ref zz) (C := RX6) (T := TX6) (N := 21) hx hb hts hiX6 hown hK hP 0 rfl rfl 17 (by decide) (hts (.fieldLink RX6 44 "ShapeRelatorModel" "z" "[J") (List.mem_of_getElem? (i := 1) rfl)) (fun _ h9 => h9) rfl dX6_signOf_30 ?_
      refine lv_bipush (v := 16) hx hb dX6_signOf_33 (by decide) ?_
      refine lv_iload_n hx hb dX6_signOf_35 rfl (lv_at hl 2 rfl) ?_
      refine lv_imul hx hb dX6_signOf_36 ?_
      refine lv_iload_n hx hb dX6_signOf_37 rfl (lv_at hl 0 rfl) ?_
      refine lv_iadd hx hb dX6_signOf_38 ?_
      refine tpi_ (y := (nI (16 * rr + k))) (ix_ 16 rr k) ?_
      refine va_lald (D := g) hx hb hK hP 1 1 rfl rfl (vp_in_nI (show 16 * rr + k < 192 by omega) (by omega)) dX6_signOf_39 ?_
      refine tpl_ (y := (z (16 * rr + k))) (by rw [nI_clamp (by omega)]) ?_
      refine lv_lstore_n (lv' := [(3, .long (z (16 * rr + k))), (2, .int (nI k)), (0, .ref ma), (1, .int (nI rr))]) hx hb dX6_signOf_40 rfl hl (by decide) rfl (fun ls hl => ?_)
      refine lv_lload_n hx hb dX6_signOf_41 rfl (lv_at hl 0 rfl) ?_
      refine lv_lconst (v := 0) hx hb dX6_signOf_42 (by decide) ?_
      refine W.lcmp hx hb dX6_signOf_43 ?_
      refine lv_if_le (tgt := 51) hx hb dX6_signOf_44 (by decide) (fun c8 => ?_) (fun c8 => ?_)
      · refine lv_lload_n hx hb dX6_signOf_51 rfl (lv_at hl 0 rfl) ?_
        refine lv_lconst (v := 0) hx hb dX6_signOf_52 (by decide) ?_
        refine W.lcmp hx hb dX6_signOf_53 ?_
        refine lv_if_ge (tgt := 61) hx hb dX6_signOf_54 (by decide) (fun c9 => ?_) (fun c9 => ?_)
        · refine lv_iconst (v := 0) hx hb dX6_signOf_61 (by decide) ?_
          have hP9 := hP.sub (ws' := [(ma, .inr (6, mo_ th zk zp za zb zx zy sn zf zt zw zm zh x0 y0 dx dy zz cu zo zu)), (zz, .inl (cJ, 192, .inr (.inl z)))]) [0, 1] rfl
          have hD9 := hD.sub (ws' := [(ma, .inr (6, mo_ th zk zp za zb zx zy sn zf zt zw zm zh x0 y0 dx dy zz cu zo zu)), (zz, .inl (cJ, 192, .inr (.inl z)))]) [0, 1] (by decide) rfl
          exact W.iret (v := 0) hx hb hr (fun t ht hW => ⟨⟨0, (), rfl, by unfold sof_; rw [ek]; exact sg3_ c8 c9, by rw [ht]; exact hP9, va_K.moved hW.alike hK, hD9⟩, hS.F ht⟩) hS.2.2 dX6_signOf_62
        · refine lv_iconst (v := (-1)) hx hb dX6_signOf_57 (by decide) ?_
          refine lv_goto (tgt := 62) hx hb dX6_signOf_58 (by decide) ?_
          have hP9 := hP.sub (ws' := [(ma, .inr (6, mo_ th zk zp za zb zx zy sn zf zt zw zm zh x0 y0 dx dy zz cu zo zu)), (zz, .inl (cJ, 192, .inr (.inl z)))]) [0, 1] rfl
          have hD9 := hD.sub (ws' := [(ma, .inr (6, mo_ th zk zp za zb zx zy sn zf zt zw zm zh x0 y0 dx dy zz cu zo zu)), (zz, .inl (cJ, 192, .inr (.inl z)))]) [0, 1] (by decide) rfl
          exact W.iret (v := (-1)) hx hb hr (fun t ht hW => ⟨⟨(-1), (), rfl, by unfold sof_; rw [ek]; exact sg2_ c9, by rw [ht]; exact hP9, va_K.moved hW.alike hK, hD9⟩, hS.F ht⟩) hS.2.2 dX6_signOf_62
      · refine lv_iconst (v := 1) hx hb dX6_signOf_47 (by decide) ?_
        refine lv_goto (tgt := 62) hx hb dX6_signOf_48 (by decide) ?_
        have hP9 := hP.sub (ws' := [(ma, .inr (6, mo_ th zk zp za zb zx zy sn zf zt zw zm zh x0 y0 dx dy zz cu zo zu)), (zz, .inl (cJ, 192, .inr (.inl z)))]) [0, 1] rfl
        have hD9 := hD.sub (ws' := [(ma, .inr (6, mo_ th zk zp za zb zx zy sn zf zt zw zm zh x0 y0 dx dy zz cu zo zu)), (zz, .inl (cJ, 192, .inr (.inl z)))]) [0, 1] (by decide) rfl
        exact W.iret (v := 1) hx hb hr (fun t ht hW => ⟨⟨1, (), rfl, by unfold sof_; rw [ek]; exact sg1_ c8, by rw [ht]; exact hP9, va_K.moved hW.alike hK, hD9⟩, hS.F ht⟩) hS.2.2 dX6_signOf_62
    · obtain ⟨k1, rfl⟩ : ∃ q, k = q + 1 := ⟨k - 1, by omega⟩
      have hl : lv_has ls 5 [(2, .int (nI (k1 + 1))), (0, .ref ma), (1, .int (nI rr))] := hl
      refine lv_iinc (v := (nI k1)) (lv' := [(2, .int (nI k1)), (0, .ref ma), (1, .int (nI rr))]) hx hb dX6_signOf_23 hl (k := 0) rfl (pk_m1 k1) (by decide) rfl (fun ls hl => ?_)
      refine lv_goto (tgt := 3) hx hb dX6_signOf_26 (by decide) ?_
      exact ih k1 (by show k1 < k1 + 1; omega) H locs ls ⟨⟨by omega, by rw [i2, sok_, if_pos ((lg_cmp_eq _ _).mp c2)]⟩, hP, hD, hS, (lv_sub hl [0, 1, 2] rfl)⟩
end
