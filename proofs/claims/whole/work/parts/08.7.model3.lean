section
theorem ikX6_crossed_X6 : ∀ w ∈ wsX60, w ∈ wsX6_crossed := by decide +kernel
set_option maxHeartbeats 1000000 in
set_option maxRecDepth 100000 in
theorem kX6_crossed (l : Launch) (g : va_G) (cI cJ cZ : ClassId) (sz : Nat) (ma : Nat) (th : Int32) (x0 : Int64) (y0 : Int64) (dx : Int64) (dy : Int64) (cu : Int32) (zk : Nat) (zp : Nat) (za : Nat) (zb : Nat) (zx : Nat) (zy : Nat) (zf : Nat) (zt : Nat) (zw : Nat) (zm : Nat) (zh : Nat) (zz : Nat) (zo : Nat) (zu : Nat) (z : Nat → Int64) (xs : Nat → Int32) (ys : Nat → Int32) (fr : Nat → Int32) (to1 : Nat → Int32) (wh : Nat → Int32) (nm : Int) (dn : Int) (ms : List (Nat × Nat × Nat)) (sh : Nat) (hq : gq_ z nm dn) (hs : sh < 2) (hl1 : ms.length ≤ 4096) (hm3 : ml3_ fr to1 wh ms) (hmb : ∀ q ∈ ms, q.1 < 4096 ∧ q.2.1 < 4096 ∧ q.2.2 < 2) : Met l yX6_crossed wsX6_crossed ({ frames := 5, cells := 0, slots := 0, locals := 124 }) (pc_ g cI cJ cZ [.ref ma, .int (nI sh)] [(ma, .inr (6, mo_ th zk zp za zb zx zy (nI ms.length) zf zt zw zm zh x0 y0 dx dy zz cu zo zu)), (zz, .inl (cJ, 192, .inr (.inl z))), (zx, .inl (cI, 4096, .inl xs)), (zy, .inl (cI, 4096, .inl ys)), (zf, .inl (cI, 4096, .inl fr)), (zt, .inl (cI, 4096, .inl to1)), (zw, .inl (cI, 4096, .inl wh))] sz) (va_Qi (fun (r : Int32) (z2 : (Nat → Int64)) => r = nI (ms.countP (cF_ xs ys x0 y0 dx dy nm dn sh) % 2) ∧ gq_ z2 nm dn) (fun (z2 : (Nat → Int64)) t => wd_ g cI cJ cZ (va_A [(ma, .inr (6, mo_ th zk zp za zb zx zy (nI ms.length) zf zt zw zm zh x0 y0 dx dy zz cu zo zu)), (zz, .inl (cJ, 192, .inr (.inl z))), (zx, .inl (cI, 4096, .inl xs)), (zy, .inl (cI, 4096, .inl ys)), (zf, .inl (cI, 4096, .inl fr)), (zt, .inl (cI, 4096, .inl to1)), (zw, .inl (cI, 4096, .inl wh))] sz) [(ma, .inr (6, mo_ th zk zp za zb zx zy (nI ms.length) zf zt zw zm zh x0 y0 dx dy zz cu zo zu)), (zz, .inl (cJ, 192, .inr (.inl z2))), (zx, .inl (cI, 4096, .inl xs)), (zy, .inl (cI, 4096, .inl ys)), (zf, .inl (cI, 4096, .inl fr)), (zt, .inl (cI, 4096, .inl to1)), (zw, .inl (cI, 4096, .inl wh))] t) (va_A [(ma, .inr (6, mo_ th zk zp za zb zx zy (nI ms.length) zf zt zw zm zh x0 y0 dx dy zz cu zo zu)), (zz, .inl (cJ, 192, .inr (.inl z))), (zx, .inl (cI, 4096, .inl xs)), (zy, .inl (cI, 4096, .inl ys)), (zf, .inl (cI, 4096, .inl fr)), (zt, .inl (cI, 4096, .inl to1)), (zw, .inl (cI, 4096, .inl wh))] sz)) (0) (0) (va_A [(ma, .inr (6, mo_ th zk zp za zb zx zy (nI ms.length) zf zt zw zm zh x0 y0 dx dy zz cu zo zu)), (zz, .inl (cJ, 192, .inr (.inl z))), (zx, .inl (cI, 4096, .inl xs)), (zy, .inl (cI, 4096, .inl ys)), (zf, .inl (cI, 4096, .inl fr)), (zt, .inl (cI, 4096, .inl to1)), (zw, .inl (cI, 4096, .inl wh))] sz) := by
  refine Met.ofW (cc := cX6_crossed) (maxL := 4) (ret := (some .int)) (by decide) rfl ?_
  intro p e s m args below meth c s₁ B hml hv
  obtain ⟨rfl, hsz, hP, hK, hD0⟩ := hv
  have hx := B.exec
  have hb := B.bytes
  have hr := B.returns
  have hts := atoms_spec (ws := wsX6_crossed) B.pre
  have hown : s.vm.findClass RX6 = some m.cls := findClass_of_methodNamed B.named
  have hlocks := B.notSynchronized
  subst hsz
  have hD := hD0.self (sz := s.heap.size)
  generalize hAe : va_A [(ma, .inr (6, mo_ th zk zp za zb zx zy (nI ms.length) zf zt zw zm zh x0 y0 dx dy zz cu zo zu)), (zz, .inl (cJ, 192, .inr (.inl z))), (zx, .inl (cI, 4096, .inl xs)), (zy, .inl (cI, 4096, .inl ys)), (zf, .inl (cI, 4096, .inl fr)), (zt, .inl (cI, 4096, .inl to1)), (zw, .inl (cI, 4096, .inl wh))] s.heap.size = A at hD ⊢
  have hA : ∀ q : Nat, s.heap.size ≤ q → A q := fun q h => by rw [← hAe]; exact Or.inr h
  have hS : va_S A s.heap s.heap [] := va_S.rf
  have hP : va_P g vwCl [(ma, .inr (6, mo_ th zk zp za zb zx zy (nI ms.length) zf zt zw zm zh x0 y0 dx dy zz cu zo zu)), (zz, .inl (cJ, 192, .inr (.inl z))), (zx, .inl (cI, 4096, .inl xs)), (zy, .inl (cI, 4096, .inl ys)), (zf, .inl (cI, 4096, .inl fr)), (zt, .inl (cI, 4096, .inl to1)), (zw, .inl (cI, 4096, .inl wh))] s.heap := hP
  have hl := lv_entry ([.ref ma, .int (nI sh)]) (n := 4) (Nat.le_of_ble_eq_true rfl)
  rw [lg_entry_eq]
  generalize (lg_sl ([.ref ma, .int (nI sh)]) ++ List.replicate (4 - (lg_sl ([.ref ma, .int (nI sh)])).length) Slot.unset).toArray = ls at hl ⊢
  have hl : lv_has ls 4 [(0, .ref ma), (1, .int (nI sh))] := hl
  have hH0 : s.heap = s.heap := rfl
  have hiX6 := ikX6_crossed_X6
  refine lv_iconst (v := 0) hx hb dX6_crossed_0 (by decide) ?_
  refine lv_istore_n (lv' := [(2, .int 0), (0, .ref ma), (1, .int (nI sh))]) hx hb dX6_crossed_1 rfl hl (by decide) rfl (fun ls hl => ?_)
  refine lv_iconst (v := 0) hx hb dX6_crossed_2 (by decide) ?_
  refine lv_istore_n (lv' := [(3, .int 0), (2, .int 0), (0, .ref ma), (1, .int (nI sh))]) hx hb dX6_crossed_3 rfl hl (by decide) rfl (fun ls hl => ?_)
  refine lpW (σ := Nat × (Nat → Int64)) (fun (k, z1) => ms.length - k) (fun (k, z1) => 0) (fun (k, z1) => 0) (fun (k, z1) H locs ls => (k ≤ ms.length ∧ gq_ z1 nm dn) ∧ va_P g vwCl [(ma, .inr (6, mo_ th zk zp za zb zx zy (nI ms.length) zf zt zw zm zh x0 y0 dx dy zz cu zo zu)), (zz, .inl (cJ, 192, .inr (.inl z1))), (zx, .inl (cI, 4096, .inl xs)), (zy, .inl (cI, 4096, .inl ys)), (zf, .inl (cI, 4096, .inl fr)), (zt, .inl (cI, 4096, .inl to1)), (zw, .inl (cI, 4096, .inl wh))] H ∧ va_D A [(ma, .inr (6, mo_ th zk zp za zb zx zy (nI ms.length) zf zt zw zm zh x0 y0 dx dy zz cu zo zu)), (zz, .inl (cJ, 192, .inr (.inl z1))), (zx, .inl (cI, 4096, .inl xs)), (zy, .inl (cI, 4096, .inl ys)), (zf, .inl (cI, 4096, .inl fr)), (zt, .inl (cI, 4096, .inl to1)), (zw, .inl (cI, 4096, .inl wh))] ∧ va_S A s.heap H locs ∧ lv_has ls 4 [(3, .int (nI k)), (2, .int (nI ((ms.take k).countP (cF_ xs ys x0 y0 dx dy nm dn sh)))), (0, .ref ma), (1, .int (nI sh))]) (fun x ih H locs ls hI => ?_) (0, z) rfl rfl ⟨⟨Nat.zero_le _, hq⟩, hP, hD, hS, (lv_sub hl [0, 1, 2, 3] rfl)⟩
  obtain ⟨k, z1⟩ := x
  obtain ⟨hi, hP, hD, hS, hl⟩ := hI
  have hP : va_P g vwCl [(ma, .inr (6, mo_ th zk zp za zb zx zy (nI ms.length) zf zt zw zm zh x0 y0 dx dy zz cu zo zu)), (zz, .inl (cJ, 192, .inr (.inl z1))), (zx, .inl (cI, 4096, .inl xs)), (zy, .inl (cI, 4096, .inl ys)), (zf, .inl (cI, 4096, .inl fr)), (zt, .inl (cI, 4096, .inl to1)), (zw, .inl (cI, 4096, .inl wh))] H := hP
  have hD : va_D A [(ma, .inr (6, mo_ th zk zp za zb zx zy (nI ms.length) zf zt zw zm zh x0 y0 dx dy zz cu zo zu)), (zz, .inl (cJ, 192, .inr (.inl z1))), (zx, .inl (cI, 4096, .inl xs)), (zy, .inl (cI, 4096, .inl ys)), (zf, .inl (cI, 4096, .inl fr)), (zt, .inl (cI, 4096, .inl to1)), (zw, .inl (cI, 4096, .inl wh))] := hD
  have hl : lv_has ls 4 [(3, .int (nI k)), (2, .int (nI ((ms.take k).countP (cF_ xs ys x0 y0 dx dy nm dn sh)))), (0, .ref ma), (1, .int (nI sh))] := hl
  show W p l e _ s m _ below meth c H locs (0) (0) _ (F0 m 4 ls [])
  obtain ⟨i1, i2⟩ := hi
  refine lv_iload_n hx hb dX6_crossed_4 rfl (lv_at hl 0 rfl) ?_
  refine lv_aload_n hx hb dX6_crossed_5 rfl (lv_at hl 2 rfl) ?_
  refine va_get (D := g) (ci := 6) (v := .int (nI ms.length)) (C := RX6) (T := TX6) (N := 21) hx hb hts hiX6 hown hK hP 0 rfl rfl 7 (by decide) (hts (.fieldLink RX6 79 "ShapeRelatorModel" "segments" "I") (List.mem_of_getElem? (i := 1) rfl)) (fun _ h9 => h9) rfl dX6_crossed_6 ?_
  refine lv_icmp_ge (tgt := 52) hx hb dX6_crossed_9 (by decide) (fun c1 => ?_) (fun c1 => ?_)
  · have e1 : k = ms.length := by have := i_ge c1 (by omega) (by omega); omega
    have e2 : ms.take k = ms := by rw [e1, List.take_length]
    rw [e2] at hl
    have hl : lv_has ls 4 [(3, .int (nI k)), (2, .int (nI (ms.countP (cF_ xs ys x0 y0 dx dy nm dn sh)))), (0, .ref ma), (1, .int (nI sh))] := hl
    have e3 : ms.countP (cF_ xs ys x0 y0 dx dy nm dn sh) ≤ ms.length := List.countP_le_length
    refine lv_iload_n hx hb dX6_crossed_52 rfl (lv_at hl 1 rfl) ?_
    refine lv_iconst (v := 2) hx hb dX6_crossed_53 (by decide) ?_
    refine lv_irem hx hb dX6_crossed_54 (by decide) ?_
    refine tpi_ (y := (nI (ms.countP (cF_ xs ys x0 y0 dx dy nm dn sh) % 2))) ((pk_rem (d := 2) (by omega) (by decide) (by decide)).symm) ?_
    have hP9 := hP.sub (ws' := [(ma, .inr (6, mo_ th zk zp za zb zx zy (nI ms.length) zf zt zw zm zh x0 y0 dx dy zz cu zo zu)), (zz, .inl (cJ, 192, .inr (.inl z1))), (zx, .inl (cI, 4096, .inl xs)), (zy, .inl (cI, 4096, .inl ys)), (zf, .inl (cI, 4096, .inl fr)), (zt, .inl (cI, 4096, .inl to1)), (zw, .inl (cI, 4096, .inl wh))]) [0, 1, 2, 3, 4, 5, 6] rfl
    have hD9 := hD.sub (ws' := [(ma, .inr (6, mo_ th zk zp za zb zx zy (nI ms.length) zf zt zw zm zh x0 y0 dx dy zz cu zo zu)), (zz, .inl (cJ, 192, .inr (.inl z1))), (zx, .inl (cI, 4096, .inl xs)), (zy, .inl (cI, 4096, .inl ys)), (zf, .inl (cI, 4096, .inl fr)), (zt, .inl (cI, 4096, .inl to1)), (zw, .inl (cI, 4096, .inl wh))]) [0, 1, 2, 3, 4, 5, 6] (by decide) rfl
    exact W.iret (v := (nI (ms.countP (cF_ xs ys x0 y0 dx dy nm dn sh) % 2))) hx hb hr (fun t ht hW => ⟨⟨nI (ms.countP (cF_ xs ys x0 y0 dx dy nm dn sh) % 2), z1, rfl, ⟨rfl, i2⟩, by rw [ht]; exact hP9, va_K.moved hW.alike hK, hD9⟩, hS.F ht⟩) hS.2.2 dX6_crossed_55
  · have e1 : k < ms.length := i_nge c1 (by omega) (by omega)
    have e2 := hm3 k e1
    have e3 := hmb _ (m3_m e1)
    obtain ⟨qq, eqq⟩ : ∃ q, q = ms.getD k (0, 0, 0) := ⟨_, rfl⟩
    rw [← eqq] at e2 e3
    refine lv_iload_n hx hb dX6_crossed_12 rfl (lv_at hl 1 rfl) ?_
    refine lv_aload_n hx hb dX6_crossed_13 rfl (lv_at hl 2 rfl) ?_
    refine va_get (D := g) (ci := 6) (v := .ref zw) (C := RX6) (T := TX6) (N := 21) hx hb hts hiX6 hown hK hP 0 rfl rfl 10 (by decide) (hts (.fieldLink RX6 34 "ShapeRelatorModel" "whose" "[I") (List.mem_of_getElem? (i := 2) rfl)) (fun _ h9 => h9) rfl dX6_crossed_14 ?_
    refine lv_iload_n hx hb dX6_crossed_17 rfl (lv_at hl 0 rfl) ?_
    refine va_iald (D := g) hx hb hK hP 6 0 rfl rfl (vp_in_nI (show k < 4096 by omega) (by omega)) dX6_crossed_18 ?_
    refine tpi_ (y := (nI qq.2.2)) (by rw [nI_clamp (by omega), e2.2.2]) ?_
    refine lv_iload_n hx hb dX6_crossed_19 rfl (lv_at hl 3 rfl) ?_
    refine lv_icmp_ne (tgt := 43) hx hb dX6_crossed_20 (by decide) (fun c2 => ?_) (fun c2 => ?_)
    · refine lv_iconst (v := 0) hx hb dX6_crossed_43 (by decide) ?_
      refine lv_iadd hx hb dX6_crossed_44 ?_
      refine tpi_ (y := (nI ((ms.take (k + 1)).countP (cF_ xs ys x0 y0 dx dy nm dn sh)))) (ct_n e1 (by rw [← eqq]; unfold cF_; rw [decide_eq_true_eq]; exact fun h => c2 (by rw [h.1]))) ?_
      refine lv_istore_n (lv' := [(2, .int (nI ((ms.take (k + 1)).countP (cF_ xs ys x0 y0 dx dy nm dn sh)))), (3, .int (nI k)), (0, .ref ma), (1, .int (nI sh))]) hx hb dX6_crossed_45 rfl hl (by decide) rfl (fun ls hl => ?_)
      refine lv_iinc (v := (nI (k + 1))) (lv' := [(3, .int (nI (k + 1))), (2, .int (nI ((ms.take (k + 1)).countP (cF_ xs ys x0 y0 dx dy nm dn sh)))), (0, .ref ma), (1, .int (nI sh))]) hx hb dX6_crossed_46 hl (k := 1) rfl (nI_1 k) (by decide) rfl (fun ls hl => ?_)
      refine lv_goto (tgt := 4) hx hb dX6_crossed_49 (by decide) ?_
      exact ih (k + 1, z1) (by show ms.length - (k + 1) < ms.length - k; omega) H locs ls ⟨⟨e1, i2⟩, hP, hD, hS, (lv_sub hl [0, 1, 2, 3] rfl)⟩
    · have e4 : qq.2.2 = sh := (nI_eq (by omega) (by omega)).mp c2
      refine lv_aload_n hx hb dX6_crossed_23 rfl (lv_at hl 2 rfl) ?_
      refine lv_iload_n hx hb dX6_crossed_24 rfl (lv_at hl 0 rfl) ?_
      have hPc := hP.sub (ws' := [(ma, .inr (6, mo_ th zk zp za zb zx zy (nI ms.length) zf zt zw zm zh x0 y0 dx dy zz cu zo zu)), (zz, .inl (cJ, 192, .inr (.inl z1))), (zx, .inl (cI, 4096, .inl xs)), (zy, .inl (cI, 4096, .inl ys)), (zf, .inl (cI, 4096, .inl fr)), (zt, .inl (cI, 4096, .inl to1))]) [0, 1, 2, 3, 4, 5] rfl
      have hDc := hD.sub (ws' := [(ma, .inr (6, mo_ th zk zp za zb zx zy (nI ms.length) zf zt zw zm zh x0 y0 dx dy zz cu zo zu)), (zz, .inl (cJ, 192, .inr (.inl z1))), (zx, .inl (cI, 4096, .inl xs)), (zy, .inl (cI, 4096, .inl ys)), (zf, .inl (cI, 4096, .inl fr)), (zt, .inl (cI, 4096, .inl to1))]) [0, 1, 2, 3, 4, 5] (by decide) rfl
      have hFc := va_free (wc := [(ma, .inr (6, mo_ th zk zp za zb zx zy (nI ms.length) zf zt zw zm zh x0 y0 dx dy zz cu zo zu)), (zz, .inl (cJ, 192, .inr (.inl z1))), (zx, .inl (cI, 4096, .inl xs)), (zy, .inl (cI, 4096, .inl ys)), (zf, .inl (cI, 4096, .inl fr)), (zt, .inl (cI, 4096, .inl to1))]) hD hS hA [0, 1, 2, 3, 4, 5] rfl
      refine va_calli (va_runV (As := [.int (nI k)]) (rest := [.int (nI ((ms.take k).countP (cF_ xs ys x0 y0 dx dy nm dn sh)))]) ⟨hx, hb, hml, hown, hts⟩ (kX6_isOn l g cI cJ cZ H.size ma th (nI ms.length) x0 y0 dx dy cu zk zp za zb zx zy zf zt zw zm zh zz zo zu z1 xs ys fr to1 nm dn k qq.1 qq.2.1 i2 e3.1 e3.2.1 (by omega) e2.1 e2.2.1) (cwV 1 hts gX6_crossed_X6_isOn rfl rfl rfl (by decide +kernel) ⟨Nat.le_of_ble_eq_true rfl, Nat.le_of_ble_eq_true rfl⟩) (pv_ hK hPc hDc (va_recv hK hPc (ci := 6) (q0 := 0) rfl rfl)) rfl rfl hl.1 rfl (lv_room (Nat.le_of_ble_eq_true rfl)) dX6_crossed_25 ⟨Nat.zero_le _, Nat.zero_le _⟩) hS (fun q _ h => hFc q h) hFc (fun r1 u t H1 locs ht hvm wza1 hB hz1 hk1 hS => ?_)
      obtain ⟨za1, rfl⟩ : ∃ z, z = u := ⟨_, rfl⟩
      obtain ⟨hP1, hK1, hD1⟩ := hB
      rw [ht] at hP1
      obtain ⟨hP, hD⟩ := va_join (wr := [(zw, .inl (cI, 4096, .inl wh))]) (w1 := [(ma, .inr (6, mo_ th zk zp za zb zx zy (nI ms.length) zf zt zw zm zh x0 y0 dx dy zz cu zo zu)), (zz, .inl (cJ, 192, .inr (.inl za1))), (zx, .inl (cI, 4096, .inl xs)), (zy, .inl (cI, 4096, .inl ys)), (zf, .inl (cI, 4096, .inl fr)), (zt, .inl (cI, 4096, .inl to1))]) hP hD [0, 1, 2, 3, 4, 5] [6] rfl rfl (by decide) (by decide) hk1 hFc hP1 hD1
      clear hPc hDc hFc hP1 hD1 hK1 hk1 hz1 hvm ht
      generalize H1 = H at hP hS ⊢
      have hP : va_P g vwCl [(zw, .inl (cI, 4096, .inl wh)), (ma, .inr (6, mo_ th zk zp za zb zx zy (nI ms.length) zf zt zw zm zh x0 y0 dx dy zz cu zo zu)), (zz, .inl (cJ, 192, .inr (.inl za1))), (zx, .inl (cI, 4096, .inl xs)), (zy, .inl (cI, 4096, .inl ys)), (zf, .inl (cI, 4096, .inl fr)), (zt, .inl (cI, 4096, .inl to1))] H := hP
      have hD : va_D A [(zw, .inl (cI, 4096, .inl wh)), (ma, .inr (6, mo_ th zk zp za zb zx zy (nI ms.length) zf zt zw zm zh x0 y0 dx dy zz cu zo zu)), (zz, .inl (cJ, 192, .inr (.inl za1))), (zx, .inl (cI, 4096, .inl xs)), (zy, .inl (cI, 4096, .inl ys)), (zf, .inl (cI, 4096, .inl fr)), (zt, .inl (cI, 4096, .inl to1))] := hD
      obtain ⟨eza1, qza1⟩ := wza1
      refine lv_if_ne (tgt := 43) hx hb dX6_crossed_28 (by decide) (fun c3 => ?_) (fun c3 => ?_)
      · refine lv_iconst (v := 0) hx hb dX6_crossed_43 (by decide) ?_
        refine lv_iadd hx hb dX6_crossed_44 ?_
        refine tpi_ (y := (nI ((ms.take (k + 1)).countP (cF_ xs ys x0 y0 dx dy nm dn sh)))) (ct_n e1 (by rw [← eqq]; unfold cF_; rw [decide_eq_true_eq]; exact fun h => c3 (by rw [eza1]; exact h.2.1))) ?_
        refine lv_istore_n (lv' := [(2, .int (nI ((ms.take (k + 1)).countP (cF_ xs ys x0 y0 dx dy nm dn sh)))), (3, .int (nI k)), (0, .ref ma), (1, .int (nI sh))]) hx hb dX6_crossed_45 rfl hl (by decide) rfl (fun ls hl => ?_)
        refine lv_iinc (v := (nI (k + 1))) (lv' := [(3, .int (nI (k + 1))), (2, .int (nI ((ms.take (k + 1)).countP (cF_ xs ys x0 y0 dx dy nm dn sh)))), (0, .ref ma), (1, .int (nI sh))]) hx hb dX6_crossed_46 hl (k := 1) rfl (nI_1 k) (by decide) rfl (fun ls hl => ?_)
        refine lv_goto (tgt := 4) hx hb dX6_crossed_49 (by decide) ?_
        exact ih (k + 1, za1) (by show ms.length - (k + 1) < ms.length - k; omega) H locs ls ⟨⟨e1, qza1⟩, (hP.sub [1, 2, 3, 4, 5, 6, 0] rfl), (hD.sub [1, 2, 3, 4, 5, 6, 0] (by decide) rfl), hS, (lv_sub hl [0, 1, 2, 3] rfl)⟩
      · refine lv_aload_n hx hb dX6_crossed_31 rfl (lv_at hl 2 rfl) ?_
        refine lv_iload_n hx hb dX6_crossed_32 rfl (lv_at hl 0 rfl) ?_
        have hPc := hP.sub (ws' := [(ma, .inr (6, mo_ th zk zp za zb zx zy (nI ms.length) zf zt zw zm zh x0 y0 dx dy zz cu zo zu)), (zz, .inl (cJ, 192, .inr (.inl za1))), (zx, .inl (cI, 4096, .inl xs)), (zy, .inl (cI, 4096, .inl ys)), (zf, .inl (cI, 4096, .inl fr)), (zt, .inl (cI, 4096, .inl to1))]) [1, 2, 3, 4, 5, 6] rfl
        have hDc := hD.sub (ws' := [(ma, .inr (6, mo_ th zk zp za zb zx zy (nI ms.length) zf zt zw zm zh x0 y0 dx dy zz cu zo zu)), (zz, .inl (cJ, 192, .inr (.inl za1))), (zx, .inl (cI, 4096, .inl xs)), (zy, .inl (cI, 4096, .inl ys)), (zf, .inl (cI, 4096, .inl fr)), (zt, .inl (cI, 4096, .inl to1))]) [1, 2, 3, 4, 5, 6] (by decide) rfl
        have hFc := va_free (wc := [(ma, .inr (6, mo_ th zk zp za zb zx zy (nI ms.length) zf zt zw zm zh x0 y0 dx dy zz cu zo zu)), (zz, .inl (cJ, 192, .inr (.inl za1))), (zx, .inl (cI, 4096, .inl xs)), (zy, .inl (cI, 4096, .inl ys)), (zf, .inl (cI, 4096, .inl fr)), (zt, .inl (cI, 4096, .inl to1))]) hD hS hA [1, 2, 3, 4, 5, 6] rfl
        refine va_calli (va_runV (As := [.int (nI k)]) (rest := [.int (nI ((ms.take k).countP (cF_ xs ys x0 y0 dx dy nm dn sh)))]) ⟨hx, hb, hml, hown, hts⟩ (kX6_crosses l g cI cJ cZ H.size ma th (nI ms.length) x0 y0 dx dy cu zk zp za zb zx zy zf zt zw zm zh zz zo zu za1 xs ys fr to1 nm dn k qq.1 qq.2.1 qza1 e3.1 e3.2.1 (by omega) e2.1 e2.2.1) (cwV 1 hts gX6_crossed_X6_crosses rfl rfl rfl (by decide +kernel) ⟨Nat.le_of_ble_eq_true rfl, Nat.le_of_ble_eq_true rfl⟩) (pv_ hK hPc hDc (va_recv hK hPc (ci := 6) (q0 := 0) rfl rfl)) rfl rfl hl.1 rfl (lv_room (Nat.le_of_ble_eq_true rfl)) dX6_crossed_33 ⟨Nat.zero_le _, Nat.zero_le _⟩) hS (fun q _ h => hFc q h) hFc (fun r2 u t H1 locs ht hvm wza2 hB hz1 hk1 hS => ?_)
        obtain ⟨za2, rfl⟩ : ∃ z, z = u := ⟨_, rfl⟩
        obtain ⟨hP1, hK1, hD1⟩ := hB
        rw [ht] at hP1
        obtain ⟨hP, hD⟩ := va_join (wr := [(zw, .inl (cI, 4096, .inl wh))]) (w1 := [(ma, .inr (6, mo_ th zk zp za zb zx zy (nI ms.length) zf zt zw zm zh x0 y0 dx dy zz cu zo zu)), (zz, .inl (cJ, 192, .inr (.inl za2))), (zx, .inl (cI, 4096, .inl xs)), (zy, .inl (cI, 4096, .inl ys)), (zf, .inl (cI, 4096, .inl fr)), (zt, .inl (cI, 4096, .inl to1))]) hP hD [1, 2, 3, 4, 5, 6] [0] rfl rfl (by decide) (by decide) hk1 hFc hP1 hD1
        clear hPc hDc hFc hP1 hD1 hK1 hk1 hz1 hvm ht
        generalize H1 = H at hP hS ⊢
        have hP : va_P g vwCl [(zw, .inl (cI, 4096, .inl wh)), (ma, .inr (6, mo_ th zk zp za zb zx zy (nI ms.length) zf zt zw zm zh x0 y0 dx dy zz cu zo zu)), (zz, .inl (cJ, 192, .inr (.inl za2))), (zx, .inl (cI, 4096, .inl xs)), (zy, .inl (cI, 4096, .inl ys)), (zf, .inl (cI, 4096, .inl fr)), (zt, .inl (cI, 4096, .inl to1))] H := hP
        have hD : va_D A [(zw, .inl (cI, 4096, .inl wh)), (ma, .inr (6, mo_ th zk zp za zb zx zy (nI ms.length) zf zt zw zm zh x0 y0 dx dy zz cu zo zu)), (zz, .inl (cJ, 192, .inr (.inl za2))), (zx, .inl (cI, 4096, .inl xs)), (zy, .inl (cI, 4096, .inl ys)), (zf, .inl (cI, 4096, .inl fr)), (zt, .inl (cI, 4096, .inl to1))] := hD
        obtain ⟨eza2, qza2⟩ := wza2
        refine lv_if_eq (tgt := 43) hx hb dX6_crossed_36 (by decide) (fun c4 => ?_) (fun c4 => ?_)
        · refine lv_iconst (v := 0) hx hb dX6_crossed_43 (by decide) ?_
          refine lv_iadd hx hb dX6_crossed_44 ?_
          refine tpi_ (y := (nI ((ms.take (k + 1)).countP (cF_ xs ys x0 y0 dx dy nm dn sh)))) (ct_n e1 (by rw [← eqq]; unfold cF_; rw [decide_eq_true_eq]; exact fun h => h.2.2 (by rw [← eza2]; exact c4))) ?_
          refine lv_istore_n (lv' := [(2, .int (nI ((ms.take (k + 1)).countP (cF_ xs ys x0 y0 dx dy nm dn sh)))), (3, .int (nI k)), (0, .ref ma), (1, .int (nI sh))]) hx hb dX6_crossed_45 rfl hl (by decide) rfl (fun ls hl => ?_)
          refine lv_iinc (v := (nI (k + 1))) (lv' := [(3, .int (nI (k + 1))), (2, .int (nI ((ms.take (k + 1)).countP (cF_ xs ys x0 y0 dx dy nm dn sh)))), (0, .ref ma), (1, .int (nI sh))]) hx hb dX6_crossed_46 hl (k := 1) rfl (nI_1 k) (by decide) rfl (fun ls hl => ?_)
          refine lv_goto (tgt := 4) hx hb dX6_crossed_49 (by decide) ?_
          exact ih (k + 1, za2) (by show ms.length - (k + 1) < ms.length - k; omega) H locs ls ⟨⟨e1, qza2⟩, (hP.sub [1, 2, 3, 4, 5, 6, 0] rfl), (hD.sub [1, 2, 3, 4, 5, 6, 0] (by decide) rfl), hS, (lv_sub hl [0, 1, 2, 3] rfl)⟩
        · refine lv_iconst (v := 1) hx hb dX6_crossed_39 (by decide) ?_
          refine lv_goto (tgt := 44) hx hb dX6_crossed_40 (by decide) ?_
          refine lv_iadd hx hb dX6_crossed_44 ?_
          refine tpi_ (y := (nI ((ms.take (k + 1)).countP (cF_ xs ys x0 y0 dx dy nm dn sh)))) (ct_y e1 (by rw [← eqq]; unfold cF_; rw [decide_eq_true_eq]; exact ⟨e4, by rw [← eza1]; exact c3, by rw [← eza2]; exact c4⟩)) ?_
          refine lv_istore_n (lv' := [(2, .int (nI ((ms.take (k + 1)).countP (cF_ xs ys x0 y0 dx dy nm dn sh)))), (3, .int (nI k)), (0, .ref ma), (1, .int (nI sh))]) hx hb dX6_crossed_45 rfl hl (by decide) rfl (fun ls hl => ?_)
          refine lv_iinc (v := (nI (k + 1))) (lv' := [(3, .int (nI (k + 1))), (2, .int (nI ((ms.take (k + 1)).countP (cF_ xs ys x0 y0 dx dy nm dn sh)))), (0, .ref ma), (1, .int (nI sh))]) hx hb dX6_crossed_46 hl (k := 1) rfl (nI_1 k) (by decide) rfl (fun ls hl => ?_)
          refine lv_goto (tgt := 4) hx hb dX6_crossed_49 (by decide) ?_
          exact ih (k + 1, za2) (by show ms.length - (k + 1) < ms.length - k; omega) H locs ls ⟨⟨e1, qza2⟩, (hP.sub [1, 2, 3, 4, 5, 6, 0] rfl), (hD.sub [1, 2, 3, 4, 5, 6, 0] (by decide) rfl), hS, (lv_sub hl [0, 1, 2, 3] rfl)⟩

theorem ikX6_having_X6 : ∀ w ∈ wsX60, w ∈ wsX6_having := by decide +kernel
set_option maxHeartbeats 1000000 in
set_option maxRecDepth 100000 in
theorem kX6_having (l : Launch) (g : va_G) (cI cJ cZ : ClassId) (sz : Nat) (ma : Nat) (th : Int32) (x0 : Int64) (y0 : Int64) (dx : Int64) (dy : Int64) (cu : Int32) (zk : Nat) (zp : Nat) (za : Nat) (zb : Nat) (zx : Nat) (zy : Nat) (zf : Nat) (zt : Nat) (zw : Nat) (zm : Nat) (zh : Nat) (zz : Nat) (zo : Nat) (zu : Nat) (z : Nat → Int64) (xs : Nat → Int32) (ys : Nat → Int32) (fr : Nat → Int32) (to1 : Nat → Int32) (wh : Nat → Int32) (nm : Int) (dn : Int) (ms : List (Nat × Nat × Nat)) (sh : Nat) (hq : gq_ z nm dn) (hs : sh < 2) (hl1 : ms.length ≤ 4096) (hm3 : ml3_ fr to1 wh ms) (hmb : ∀ q ∈ ms, q.1 < 4096 ∧ q.2.1 < 4096 ∧ q.2.2 < 2) : Met l yX6_having wsX6_having ({ frames := 5, cells := 0, slots := 0, locals := 124 }) (pc_ g cI cJ cZ [.ref ma, .int (nI sh)] [(ma, .inr (6, mo_ th zk zp za zb zx zy (nI ms.length) zf zt zw zm zh x0 y0 dx dy zz cu zo zu)), (zz, .inl (cJ, 192, .inr (.inl z))), (zx, .inl (cI, 4096, .inl xs)), (zy, .inl (cI, 4096, .inl ys)), (zf, .inl (cI, 4096, .inl fr)), (zt, .inl (cI, 4096, .inl to1)), (zw, .inl (cI, 4096, .inl wh))] sz) (va_Qi (fun (r : Int32) (z2 : (Nat → Int64)) => r = nI (ms.countP (hF_ xs ys x0 y0 dx dy nm dn sh)) ∧ gq_ z2 nm dn) (fun (z2 : (Nat → Int64)) t => wd_ g cI cJ cZ (va_A [(ma, .inr (6, mo_ th zk zp za zb zx zy (nI ms.length) zf zt zw zm zh x0 y0 dx dy zz cu zo zu)), (zz, .inl (cJ, 192, .inr (.inl z))), (zx, .inl (cI, 4096, .inl xs)), (zy, .inl (cI, 4096, .inl ys)), (zf, .inl (cI, 4096, .inl fr)), (zt, .inl (cI, 4096, .inl to1)), (zw, .inl (cI, 4096, .inl wh))] sz) [(ma, .inr (6, mo_ th zk zp za zb zx zy (nI ms.length) zf zt zw zm zh x0 y0 dx dy zz cu zo zu)), (zz, .inl (cJ, 192, .inr (.inl z2))), (zx, .inl (cI, 4096, .inl xs)), (zy, .inl (cI, 4096, .inl ys)), (zf, .inl (cI, 4096, .inl fr)), (zt, .inl (cI, 4096, .inl to1)), (zw, .inl (cI, 4096, .inl wh))] t) (va_A [(ma, .inr (6, mo_ th zk zp za zb zx zy (nI ms.length) zf zt zw zm zh x0 y0 dx dy zz cu zo zu)), (zz, .inl (cJ, 192, .inr (.inl z))), (zx, .inl (cI, 4096, .inl xs)), (zy, .inl (cI, 4096, .inl ys)), (zf, .inl (cI, 4096, .inl fr)), (zt, .inl (cI, 4096, .inl to1)), (zw, .inl (cI, 4096, .inl wh))] sz)) (0) (0) (va_A [(ma, .inr (6, mo_ th zk zp za zb zx zy (nI ms.length) zf zt zw zm zh x0 y0 dx dy zz cu zo zu)), (zz, .inl (cJ, 192, .inr (.inl z))), (zx, .inl (cI, 4096, .inl xs)), (zy, .inl (cI, 4096, .inl ys)), (zf, .inl (cI, 4096, .inl fr)), (zt, .inl (cI, 4096, .inl to1)), (zw, .inl (cI, 4096, .inl wh))] sz) := by
  refine Met.ofW (cc := cX6_having) (maxL := 4) (ret := (some .int)) (by decide) rfl ?_
  intro p e s m args below meth c s₁ B hml hv
  obtain ⟨rfl, hsz, hP, hK, hD0⟩ := hv
  have hx := B.exec
  have hb := B.bytes
  have hr := B.returns
  have hts := atoms_spec (ws := wsX6_having) B.pre
  have hown : s.vm.findClass RX6 = some m.cls := findClass_of_methodNamed B.named
  have hlocks := B.notSynchronized
  subst hsz
  have hD := hD0.self (sz := s.heap.size)
  generalize hAe : va_A [(ma, .inr (6, mo_ th zk zp za zb zx zy (nI ms.length) zf zt zw zm zh x0 y0 dx dy zz cu zo zu)), (zz, .inl (cJ, 192, .inr (.inl z))), (zx, .inl (cI, 4096, .inl xs)), (zy, .inl (cI, 4096, .inl ys)), (zf, .inl (cI, 4096, .inl fr)), (zt, .inl (cI, 4096, .inl to1)), (zw, .inl (cI, 4096, .inl wh))] s.heap.size = A at hD ⊢
  have hA : ∀ q : Nat, s.heap.size ≤ q → A q := fun q h => by rw [← hAe]; exact Or.inr h
  have hS : va_S A s.heap s.heap [] := va_S.rf
  have hP : va_P g vwCl [(ma, .inr (6, mo_ th zk zp za zb zx zy (nI ms.length) zf zt zw zm zh x0 y0 dx dy zz cu zo zu)), (zz, .inl (cJ, 192, .inr (.inl z))), (zx, .inl (cI, 4096, .inl xs)), (zy, .inl (cI, 4096, .inl ys)), (zf, .inl (cI, 4096, .inl fr)), (zt, .inl (cI, 4096, .inl to1)), (zw, .inl (cI, 4096, .inl wh))] s.heap := hP
  have hl := lv_entry ([.ref ma, .int (nI sh)]) (n := 4) (Nat.le_of_ble_eq_true rfl)
  rw [lg_entry_eq]
  generalize (lg_sl ([.ref ma, .int (nI sh)]) ++ List.replicate (4 - (lg_sl ([.ref ma, .int (nI sh)])).length) Slot.unset).toArray = ls at hl ⊢
  have hl : lv_has ls 4 [(0, .ref ma), (1, .int (nI sh))] := hl
  have hH0 : s.heap = s.heap := rfl
  have hiX6 := ikX6_having_X6
  refine lv_iconst (v := 0) hx hb dX6_having_0 (by decide) ?_
  refine lv_istore_n (lv' := [(2, .int 0), (0, .ref ma), (1, .int (nI sh))]) hx hb dX6_having_1 rfl hl (by decide) rfl (fun ls hl => ?_)
  refine lv_iconst (v := 0) hx hb dX6_having_2 (by decide) ?_
  refine lv_istore_n (lv' := [(3, .int 0), (2, .int 0), (0, .ref ma), (1, .int (nI sh))]) hx hb dX6_having_3 rfl hl (by decide) rfl (fun ls hl => ?_)
  refine lpW (σ := Nat × (Nat → Int64)) (fun (k, z1) => ms.length - k) (fun (k, z1) => 0) (fun (k, z1) => 0) (fun (k, z1) H locs ls => (k ≤ ms.length ∧ gq_ z1 nm dn) ∧ va_P g vwCl [(ma, .inr (6, mo_ th zk zp za zb zx zy (nI ms.length) zf zt zw zm zh x0 y0 dx dy zz cu zo zu)), (zz, .inl (cJ, 192, .inr (.inl z1))), (zx, .inl (cI, 4096, .inl xs)), (zy, .inl (cI, 4096, .inl ys)), (zf, .inl (cI, 4096, .inl fr)), (zt, .inl (cI, 4096, .inl to1)), (zw, .inl (cI, 4096, .inl wh))] H ∧ va_D A [(ma, .inr (6, mo_ th zk zp za zb zx zy (nI ms.length) zf zt zw zm zh x0 y0 dx dy zz cu zo zu)), (zz, .inl (cJ, 192, .inr (.inl z1))), (zx, .inl (cI, 4096, .inl xs)), (zy, .inl (cI, 4096, .inl ys)), (zf, .inl (cI, 4096, .inl fr)), (zt, .inl (cI, 4096, .inl to1)), (zw, .inl (cI, 4096, .inl wh))] ∧ va_S A s.heap H locs ∧ lv_has ls 4 [(3, .int (nI k)), (2, .int (nI ((ms.take k).countP (hF_ xs ys x0 y0 dx dy nm dn sh)))), (0, .ref ma), (1, .int (nI sh))]) (fun x ih H locs ls hI => ?_) (0, z) rfl rfl ⟨⟨Nat.zero_le _, hq⟩, hP, hD, hS, (lv_sub hl [0, 1, 2, 3] rfl)⟩
  obtain ⟨k, z1⟩ := x
  obtain ⟨hi, hP, hD, hS, hl⟩ := hI
  have hP : va_P g vwCl [(ma, .inr (6, mo_ th zk zp za zb zx zy (nI ms.length) zf zt zw zm zh x0 y0 dx dy zz cu zo zu)), (zz, .inl (cJ, 192, .inr (.inl z1))), (zx, .inl (cI, 4096, .inl xs)), (zy, .inl (cI, 4096, .inl ys)), (zf, .inl (cI, 4096, .inl fr)), (zt, .inl (cI, 4096, .inl to1)), (zw, .inl (cI, 4096, .inl wh))] H := hP
  have hD : va_D A [(ma, .inr (6, mo_ th zk zp za zb zx zy (nI ms.length) zf zt zw zm zh x0 y0 dx dy zz cu zo zu)), (zz, .inl (cJ, 192, .inr (.inl z1))), (zx, .inl (cI, 4096, .inl xs)), (zy, .inl (cI, 4096, .inl ys)), (zf, .inl (cI, 4096, .inl fr)), (zt, .inl (cI, 4096, .inl to1)), (zw, .inl (cI, 4096, .inl wh))] := hD
  have hl : lv_has ls 4 [(3, .int (nI k)), (2, .int (nI ((ms.take k).countP (hF_ xs ys x0 y0 dx dy nm dn sh)))), (0, .ref ma), (1, .int (nI sh))] := hl
  show W p l e _ s m _ below meth c H locs (0) (0) _ (F0 m 4 ls [])
  obtain ⟨i1, i2⟩ := hi
  refine lv_iload_n hx hb dX6_having_4 rfl (lv_at hl 0 rfl) ?_
  refine lv_aload_n hx hb dX6_having_5 rfl (lv_at hl 2 rfl) ?_
  refine va_get (D := g) (ci := 6) (v := .int (nI ms.length)) (C := RX6) (T := TX6) (N := 21) hx hb hts hiX6 hown hK hP 0 rfl rfl 7 (by decide) (hts (.fieldLink RX6 79 "ShapeRelatorModel" "segments" "I") (List.mem_of_getElem? (i := 1) rfl)) (fun _ h9 => h9) rfl dX6_having_6 ?_
  refine lv_icmp_ge (tgt := 44) hx hb dX6_having_9 (by decide) (fun c1 => ?_) (fun c1 => ?_)
  · have e1 : k = ms.length := by have := i_ge c1 (by omega) (by omega); omega
    have e2 : ms.take k = ms := by rw [e1, List.take_length]
    rw [e2] at hl
    have hl : lv_has ls 4 [(3, .int (nI k)), (2, .int (nI (ms.countP (hF_ xs ys x0 y0 dx dy nm dn sh)))), (0, .ref ma), (1, .int (nI sh))] := hl
    have e3 : ms.countP (hF_ xs ys x0 y0 dx dy nm dn sh) ≤ ms.length := List.countP_le_length
    refine lv_iload_n hx hb dX6_having_44 rfl (lv_at hl 1 rfl) ?_
    have hP9 := hP.sub (ws' := [(ma, .inr (6, mo_ th zk zp za zb zx zy (nI ms.length) zf zt zw zm zh x0 y0 dx dy zz cu zo zu)), (zz, .inl (cJ, 192, .inr (.inl z1))), (zx, .inl (cI, 4096, .inl xs)), (zy, .inl (cI, 4096, .inl ys)), (zf, .inl (cI, 4096, .inl fr)), (zt, .inl (cI, 4096, .inl to1)), (zw, .inl (cI, 4096, .inl wh))]) [0, 1, 2, 3, 4, 5, 6] rfl
    have hD9 := hD.sub (ws' := [(ma, .inr (6, mo_ th zk zp za zb zx zy (nI ms.length) zf zt zw zm zh x0 y0 dx dy zz cu zo zu)), (zz, .inl (cJ, 192, .inr (.inl z1))), (zx, .inl (cI, 4096, .inl xs)), (zy, .inl (cI, 4096, .inl ys)), (zf, .inl (cI, 4096, .inl fr)), (zt, .inl (cI, 4096, .inl to1)), (zw, .inl (cI, 4096, .inl wh))]) [0, 1, 2, 3, 4, 5, 6] (by decide) rfl
    exact W.iret (v := (nI (ms.countP (hF_ xs ys x0 y0 dx dy nm dn sh)))) hx hb hr (fun t ht hW => ⟨⟨nI (ms.countP (hF_ xs ys x0 y0 dx dy nm dn sh)), z1, rfl, ⟨rfl, i2⟩, by rw [ht]; exact hP9, va_K.moved hW.alike hK, hD9⟩, hS.F ht⟩) hS.2.2 dX6_having_45
  · have e1 : k < ms.length := i_nge c1 (by omega) (by omega)
    have e2 := hm3 k e1
    have e3 := hmb _ (m3_m e1)
    obtain ⟨qq, eqq⟩ : ∃ q, q = ms.getD k (0, 0, 0) := ⟨_, rfl⟩
    rw [← eqq] at e2 e3
    refine lv_iload_n hx hb dX6_having_12 rfl (lv_at hl 1 rfl) ?_
    refine lv_aload_n hx hb dX6_having_13 rfl (lv_at hl 2 rfl) ?_
    refine va_get (D := g) (ci := 6) (v := .ref zw) (C := RX6) (T := TX6) (N := 21) hx hb hts hiX6 hown hK hP 0 rfl rfl 10 (by decide) (hts (.fieldLink RX6 34 "ShapeRelatorModel" "whose" "[I") (List.mem_of_getElem? (i := 2) rfl)) (fun _ h9 => h9) rfl dX6_having_14 ?_
    refine lv_iload_n hx hb dX6_having_17 rfl (lv_at hl 0 rfl) ?_
    refine va_iald (D := g) hx hb hK hP 6 0 rfl rfl (vp_in_nI (show k < 4096 by omega) (by omega)) dX6_having_18 ?_
    refine tpi_ (y := (nI qq.2.2)) (by rw [nI_clamp (by omega), e2.2.2]) ?_
    refine lv_iload_n hx hb dX6_having_19 rfl (lv_at hl 3 rfl) ?_
    refine lv_icmp_ne (tgt := 35) hx hb dX6_having_20 (by decide) (fun c2 => ?_) (fun c2 => ?_)
    · refine lv_iconst (v := 0) hx hb dX6_having_35 (by decide) ?_
      refine lv_iadd hx hb dX6_having_36 ?_
      refine tpi_ (y := (nI ((ms.take (k + 1)).countP (hF_ xs ys x0 y0 dx dy nm dn sh)))) (ct_n e1 (by rw [← eqq]; unfold hF_; rw [decide_eq_true_eq]; exact fun h => c2 (by rw [h.1]))) ?_
      refine lv_istore_n (lv' := [(2, .int (nI ((ms.take (k + 1)).countP (hF_ xs ys x0 y0 dx dy nm dn sh)))), (3, .int (nI k)), (0, .ref ma), (1, .int (nI sh))]) hx hb dX6_having_37 rfl hl (by decide) rfl (fun ls hl => ?_)
      refine lv_iinc (v := (nI (k + 1))) (lv' := [(3, .int (nI (k + 1))), (2, .int (nI ((ms.take (k + 1)).countP (hF_ xs ys x0 y0 dx dy nm dn sh)))), (0, .ref ma), (1, .int (nI sh))]) hx hb dX6_having_38 hl (k := 1) rfl (nI_1 k) (by decide) rfl (fun ls hl => ?_)
      refine lv_goto (tgt := 4) hx hb dX6_having_41 (by decide) ?_
      exact ih (k + 1, z1) (by show ms.length - (k + 1) < ms.length - k; omega) H locs ls ⟨⟨e1, i2⟩, hP, hD, hS, (lv_sub hl [0, 1, 2, 3] rfl)⟩
    · have e4 : qq.2.2 = sh := (nI_eq (by omega) (by omega)).mp c2
      refine lv_aload_n hx hb dX6_having_23 rfl (lv_at hl 2 rfl) ?_
      refine lv_iload_n hx hb dX6_having_24 rfl (lv_at hl 0 rfl) ?_
      have hPc := hP.sub (ws' := [(ma, .inr (6, mo_ th zk zp za zb zx zy (nI ms.length) zf zt zw zm zh x0 y0 dx dy zz cu zo zu)), (zz, .inl (cJ, 192, .inr (.inl z1))), (zx, .inl (cI, 4096, .inl xs)), (zy, .inl (cI, 4096, .inl ys)), (zf, .inl (cI, 4096, .inl fr)), (zt, .inl (cI, 4096, .inl to1))]) [0, 1, 2, 3, 4, 5] rfl
      have hDc := hD.sub (ws' := [(ma, .inr (6, mo_ th zk zp za zb zx zy (nI ms.length) zf zt zw zm zh x0 y0 dx dy zz cu zo zu)), (zz, .inl (cJ, 192, .inr (.inl z1))), (zx, .inl (cI, 4096, .inl xs)), (zy, .inl (cI, 4096, .inl ys)), (zf, .inl (cI, 4096, .inl fr)), (zt, .inl (cI, 4096, .inl to1))]) [0, 1, 2, 3, 4, 5] (by decide) rfl
      have hFc := va_free (wc := [(ma, .inr (6, mo_ th zk zp za zb zx zy (nI ms.length) zf zt zw zm zh x0 y0 dx dy zz cu zo zu)), (zz, .inl (cJ, 192, .inr (.inl z1))), (zx, .inl (cI, 4096, .inl xs)), (zy, .inl (cI, 4096, .inl ys)), (zf, .inl (cI, 4096, .inl fr)), (zt, .inl (cI, 4096, .inl to1))]) hD hS hA [0, 1, 2, 3, 4, 5] rfl
      refine va_calli (va_runV (As := [.int (nI k)]) (rest := [.int (nI ((ms.take k).countP (hF_ xs ys x0 y0 dx dy nm dn sh)))]) ⟨hx, hb, hml, hown, hts⟩ (kX6_isOn l g cI cJ cZ H.size ma th (nI ms.length) x0 y0 dx dy cu zk zp za zb zx zy zf zt zw zm zh zz zo zu z1 xs ys fr to1 nm dn k qq.1 qq.2.1 i2 e3.1 e3.2.1 (by omega) e2.1 e2.2.1) (cwV 1 hts gX6_having_X6_isOn rfl rfl rfl (by decide +kernel) ⟨Nat.le_of_ble_eq_true rfl, Nat.le_of_ble_eq_true rfl⟩) (pv_ hK hPc hDc (va_recv hK hPc (ci := 6) (q0 := 0) rfl rfl)) rfl rfl hl.1 rfl (lv_room (Nat.le_of_ble_eq_true rfl)) dX6_having_25 ⟨Nat.zero_le _, Nat.zero_le _⟩) hS (fun q _ h => hFc q h) hFc (fun r1 u t H1 locs ht hvm wza1 hB hz1 hk1 hS => ?_)
      obtain ⟨za1, rfl⟩ : ∃ z, z = u := ⟨_, rfl⟩
      obtain ⟨hP1, hK1, hD1⟩ := hB
      rw [ht] at hP1
      obtain ⟨hP, hD⟩ := va_join (wr := [(zw, .inl (cI, 4096, .inl wh))]) (w1 := [(ma, .inr (6, mo_ th zk zp za zb zx zy (nI ms.length) zf zt zw zm zh x0 y0 dx dy zz cu zo zu)), (zz, .inl (cJ, 192, .inr (.inl za1))), (zx, .inl (cI, 4096, .inl xs)), (zy, .inl (cI, 4096, .inl ys)), (zf, .inl (cI, 4096, .inl fr)), (zt, .inl (cI, 4096, .inl to1))]) hP hD [0, 1, 2, 3, 4, 5] [6] rfl rfl (by decide) (by decide) hk1 hFc hP1 hD1
      clear hPc hDc hFc hP1 hD1 hK1 hk1 hz1 hvm ht
      generalize H1 = H at hP hS ⊢
      have hP : va_P g vwCl [(zw, .inl (cI, 4096, .inl wh)), (ma, .inr (6, mo_ th zk zp za zb zx zy (nI ms.length) zf zt zw zm zh x0 y0 dx dy zz cu zo zu)), (zz, .inl (cJ, 192, .inr (.inl za1))), (zx, .inl (cI, 4096, .inl xs)), (zy, .inl (cI, 4096, .inl ys)), (zf, .inl (cI, 4096, .inl fr)), (zt, .inl (cI, 4096, .inl to1))] H := hP
      have hD : va_D A [(zw, .inl (cI, 4096, .inl wh)), (ma, .inr (6, mo_ th zk zp za zb zx zy (nI ms.length) zf zt zw zm zh x0 y0 dx dy zz cu zo zu)), (zz, .inl (cJ, 192, .inr (.inl za1))), (zx, .inl (cI, 4096, .inl xs)), (zy, .inl (cI, 4096, .inl ys)), (zf, .inl (cI, 4096, .inl fr)), (zt, .inl (cI, 4096, .inl to1))] := hD
      obtain ⟨eza1, qza1⟩ := wza1
      refine lv_if_eq (tgt := 35) hx hb dX6_having_28 (by decide) (fun c3 => ?_) (fun c3 => ?_)
      · refine lv_iconst (v := 0) hx hb dX6_having_35 (by decide) ?_
        refine lv_iadd hx hb dX6_having_36 ?_
        refine tpi_ (y := (nI ((ms.take (k + 1)).countP (hF_ xs ys x0 y0 dx dy nm dn sh)))) (ct_n e1 (by rw [← eqq]; unfold hF_; rw [decide_eq_true_eq]; exact fun h => h.2 (by rw [← eza1]; exact c3))) ?_
        refine lv_istore_n (lv' := [(2, .int (nI ((ms.take (k + 1)).countP (hF_ xs ys x0 y0 dx dy nm dn sh)))), (3, .int (nI k)), (0, .ref ma), (1, .int (nI sh))]) hx hb dX6_having_37 rfl hl (by decide) rfl (fun ls hl => ?_)
        refine lv_iinc (v := (nI (k + 1))) (lv' := [(3, .int (nI (k + 1))), (2, .int (nI ((ms.take (k + 1)).countP (hF_ xs ys x0 y0 dx dy nm dn sh)))), (0, .ref ma), (1, .int (nI sh))]) hx hb dX6_having_38 hl (k := 1) rfl (nI_1 k) (by decide) rfl (fun ls hl => ?_)
        refine lv_goto (tgt := 4) hx hb dX6_having_41 (by decide) ?_
        exact ih (k + 1, za1) (by show ms.length - (k + 1) < ms.length - k; omega) H locs ls ⟨⟨e1, qza1⟩, (hP.sub [1, 2, 3, 4, 5, 6, 0] rfl), (hD.sub [1, 2, 3, 4, 5, 6, 0] (by decide) rfl), hS, (lv_sub hl [0, 1, 2, 3] rfl)⟩
      · refine lv_iconst (v := 1) hx hb dX6_having_31 (by decide) ?_
        refine lv_goto (tgt := 36) hx hb dX6_having_32 (by decide) ?_
        refine lv_iadd hx hb dX6_having_36 ?_
        refine tpi_ (y := (nI ((ms.take (k + 1)).countP (hF_ xs ys x0 y0 dx dy nm dn sh)))) (ct_y e1 (by rw [← eqq]; unfold hF_; rw [decide_eq_true_eq]; exact ⟨e4, by rw [← eza1]; exact c3⟩)) ?_
        refine lv_istore_n (lv' := [(2, .int (nI ((ms.take (k + 1)).countP (hF_ xs ys x0 y0 dx dy nm dn sh)))), (3, .int (nI k)), (0, .ref ma), (1, .int (nI sh))]) hx hb dX6_having_37 rfl hl (by decide) rfl (fun ls hl => ?_)
        refine lv_iinc (v := (nI (k + 1))) (lv' := [(3, .int (nI (k + 1))), (2, .int (nI ((ms.take (k + 1)).countP (hF_ xs ys x0 y0 dx dy nm dn sh)))), (0, .ref ma), (1, .int (nI sh))]) hx hb dX6_having_38 hl (k := 1) rfl (nI_1 k) (by decide) rfl (fun ls hl => ?_)
        refine lv_goto (tgt := 4) hx hb dX6_having_41 (by decide) ?_
        exact ih (k + 1, za1) (by show ms.length - (k + 1) < ms.length - k; omega) H locs ls ⟨⟨e1, qza1⟩, (hP.sub [1, 2, 3, 4, 5, 6, 0] rfl), (hD.sub [1, 2, 3, 4, 5, 6, 0] (by decide) rfl), hS, (lv_sub hl [0, 1, 2, 3] rfl)⟩

theorem ikX6_hasPoint_X6 : ∀ w ∈ wsX60, w ∈ wsX6_hasPoint := by decide +kernel
set_option maxHeartbeats 1000000 in
set_option maxRecDepth 100000 in
theorem kX6_hasPoint (l : Launch) (g : va_G) (cI cJ cZ : ClassId) (sz : Nat) (ma : Nat) (th : Int32) (sn : Int32) (x0 : Int64) (y0 : Int64) (dx : Int64) (dy : Int64) (cu : Int32) (zk : Nat) (zp : Nat) (za : Nat) (zb : Nat) (zx : Nat) (zy : Nat) (zf : Nat) (zt : Nat) (zw : Nat) (zm : Nat) (zh : Nat) (zz : Nat) (zo : Nat) (zu : Nat) (z : Nat → Int64) (xs : Nat → Int32) (ys : Nat → Int32) (pt : Nat → Int32) (nm : Int) (dn : Int) (sh : Nat) (np : Nat) (hq : gq_ z nm dn) (hs : sh < 2) (h1 : pt sh = nI np) (h2 : np ≤ 2048) : Met l yX6_hasPoint wsX6_hasPoint ({ frames := 5, cells := 0, slots := 0, locals := 118 }) (pc_ g cI cJ cZ [.ref ma, .int (nI sh)] [(ma, .inr (6, mo_ th zk zp za zb zx zy sn zf zt zw zm zh x0 y0 dx dy zz cu zo zu)), (zz, .inl (cJ, 192, .inr (.inl z))), (zx, .inl (cI, 4096, .inl xs)), (zy, .inl (cI, 4096, .inl ys)), (zp, .inl (cI, 2, .inl pt))] sz) (va_Qi (fun (r : Int32) (z2 : (Nat → Int64)) => r = hp_ (fun k => isp_ xs ys x0 y0 dx dy nm dn (2048 * sh + k)) np ∧ gq_ z2 nm dn) (fun (z2 : (Nat → Int64)) t => wd_ g cI cJ cZ (va_A [(ma, .inr (6, mo_ th zk zp za zb zx zy sn zf zt zw zm zh x0 y0 dx dy zz cu zo zu)), (zz, .inl (cJ, 192, .inr (.inl z))), (zx, .inl (cI, 4096, .inl xs)), (zy, .inl (cI, 4096, .inl ys)), (zp, .inl (cI, 2, .inl pt))] sz) [(ma, .inr (6, mo_ th zk zp za zb zx zy sn zf zt zw zm zh x0 y0 dx dy zz cu zo zu)), (zz, .inl (cJ, 192, .inr (.inl z2))), (zx, .inl (cI, 4096, .inl xs)), (zy, .inl (cI, 4096, .inl ys)), (zp, .inl (cI, 2, .inl pt))] t) (va_A [(ma, .inr (6, mo_ th zk zp za zb zx zy sn zf zt zw zm zh x0 y0 dx dy zz cu zo zu)), (zz, .inl (cJ, 192, .inr (.inl z))), (zx, .inl (cI, 4096, .inl xs)), (zy, .inl (cI, 4096, .inl ys)), (zp, .inl (cI, 2, .inl pt))] sz)) (0) (0) (va_A [(ma, .inr (6, mo_ th zk zp za zb zx zy sn zf zt zw zm zh x0 y0 dx dy zz cu zo zu)), (zz, .inl (cJ, 192, .inr (.inl z))), (zx, .inl (cI, 4096, .inl xs)), (zy, .inl (cI, 4096, .inl ys)), (zp, .inl (cI, 2, .inl pt))] sz) := by
  refine Met.ofW (cc := cX6_hasPoint) (maxL := 4) (ret := (some .boolean)) (by decide) rfl ?_
  intro p e s m args below meth c s₁ B hml hv
  obtain ⟨rfl, hsz, hP, hK, hD0⟩ := hv
  have hx := B.exec
  have hb := B.bytes
  have hr := B.returns
  have hts := atoms_spec (ws := wsX6_hasPoint) B.pre
  have hown : s.vm.findClass RX6 = some m.cls := findClass_of_methodNamed B.named
  have hlocks := B.notSynchronized
  subst hsz
  have hD := hD0.self (sz := s.heap.size)
  generalize hAe : va_A [(ma, .inr (6, mo_ th zk zp za zb zx zy sn zf zt zw zm zh x0 y0 dx dy zz cu zo zu)), (zz, .inl (cJ, 192, .inr (.inl z))), (zx, .inl (cI, 4096, .inl xs)), (zy, .inl (cI, 4096, .inl ys)), (zp, .inl (cI, 2, .inl pt))] s.heap.size = A at hD ⊢
  have hA : ∀ q : Nat, s.heap.size ≤ q → A q := fun q h => by rw [← hAe]; exact Or.inr h
  have hS : va_S A s.heap s.heap [] := va_S.rf
  have hP : va_P g vwCl [(ma, .inr (6, mo_ th zk zp za zb zx zy sn zf zt zw zm zh x0 y0 dx dy zz cu zo zu)), (zz, .inl (cJ, 192, .inr (.inl z))), (zx, .inl (cI, 4096, .inl xs)), (zy, .inl (cI, 4096, .inl ys)), (zp, .inl (cI, 2, .inl pt))] s.heap := hP
  have hl := lv_entry ([.ref ma, .int (nI sh)]) (n := 4) (Nat.le_of_ble_eq_true rfl)
  rw [lg_entry_eq]
  generalize (lg_sl ([.ref ma, .int (nI sh)]) ++ List.replicate (4 - (lg_sl ([.ref ma, .int (nI sh)])).length) Slot.unset).toArray = ls at hl ⊢
  have hl : lv_has ls 4 [(0, .ref ma), (1, .int (nI sh))] := hl
  have hH0 : s.heap = s.heap := rfl
  have hiX6 := ikX6_hasPoint_X6
  refine lv_iconst (v := 0) hx hb dX6_hasPoint_0 (by decide) ?_
  refine lv_istore_n (lv' := [(2, .int 0), (0, .ref ma), (1, .int (nI sh))]) hx hb dX6_hasPoint_1 rfl hl (by decide) rfl (fun ls hl => ?_)
  refine lv_sipush (v := 2048) hx hb dX6_hasPoint_2 (by decide) ?_
  refine lv_iload_n hx hb dX6_hasPoint_5 rfl (lv_at hl 2 rfl) ?_
  refine lv_imul hx hb dX6_hasPoint_6 ?_
  refine tpi_ (y := (nI (2048 * sh + 0))) (by rw [Nat.add_zero, ← pk_mul]; rfl) ?_
  refine lv_istore_n (lv' := [(3, .int (nI (2048 * sh + 0))), (2, .int 0), (0, .ref ma), (1, .int (nI sh))]) hx hb dX6_hasPoint_7 rfl hl (by decide) rfl (fun ls hl => ?_)
  refine lpW (σ := Nat × (Nat → Int64)) (fun (k, z1) => np - k) (fun (k, z1) => 0) (fun (k, z1) => 0) (fun (k, z1) H locs ls => (k ≤ np ∧ gq_ z1 nm dn) ∧ va_P g vwCl [(ma, .inr (6, mo_ th zk zp za zb zx zy sn zf zt zw zm zh x0 y0 dx dy zz cu zo zu)), (zz, .inl (cJ, 192, .inr (.inl z1))), (zx, .inl (cI, 4096, .inl xs)), (zy, .inl (cI, 4096, .inl ys)), (zp, .inl (cI, 2, .inl pt))] H ∧ va_D A [(ma, .inr (6, mo_ th zk zp za zb zx zy sn zf zt zw zm zh x0 y0 dx dy zz cu zo zu)), (zz, .inl (cJ, 192, .inr (.inl z1))), (zx, .inl (cI, 4096, .inl xs)), (zy, .inl (cI, 4096, .inl ys)), (zp, .inl (cI, 2, .inl pt))] ∧ va_S A s.heap H locs ∧ lv_has ls 4 [(3, .int (nI (2048 * sh + k))), (2, .int (hp_ (fun k => isp_ xs ys x0 y0 dx dy nm dn (2048 * sh + k)) k)), (0, .ref ma), (1, .int (nI sh))]) (fun x ih H locs ls hI => ?_) (0, z) rfl rfl ⟨⟨Nat.zero_le _, hq⟩, hP, hD, hS, (lv_sub hl [0, 1, 2, 3] rfl)⟩
  obtain ⟨k, z1⟩ := x
  obtain ⟨hi, hP, hD, hS, hl⟩ := hI
  have hP : va_P g vwCl [(ma, .inr (6, mo_ th zk zp za zb zx zy sn zf zt zw zm zh x0 y0 dx dy zz cu zo zu)), (zz, .inl (cJ, 192, .inr (.inl z1))), (zx, .inl (cI, 4096, .inl xs)), (zy, .inl (cI, 4096, .inl ys)), (zp, .inl (cI, 2, .inl pt))] H := hP
  have hD : va_D A [(ma, .inr (6, mo_ th zk zp za zb zx zy sn zf zt zw zm zh x0 y0 dx dy zz cu zo zu)), (zz, .inl (cJ, 192, .inr (.inl z1))), (zx, .inl (cI, 4096, .inl xs)), (zy, .inl (cI, 4096, .inl ys)), (zp, .inl (cI, 2, .inl pt))] := hD
  have hl : lv_has ls 4 [(3, .int (nI (2048 * sh + k))), (2, .int (hp_ (fun k => isp_ xs ys x0 y0 dx dy nm dn (2048 * sh + k)) k)), (0, .ref ma), (1, .int (nI sh))] := hl
  show W p l e _ s m _ below meth c H locs (0) (0) _ (F0 m 8 ls [])
  obtain ⟨i1, i2⟩ := hi
  refine lv_iload_n hx hb dX6_hasPoint_8 rfl (lv_at hl 0 rfl) ?_
  refine lv_sipush (v := 2048) hx hb dX6_hasPoint_9 (by decide) ?_
  refine lv_iload_n hx hb dX6_hasPoint_12 rfl (lv_at hl 3 rfl) ?_
  refine lv_imul hx hb dX6_hasPoint_13 ?_
  refine lv_aload_n hx hb dX6_hasPoint_14 rfl (lv_at hl 2 rfl) ?_
  refine va_get (D := g) (ci := 6) (v := .ref zp) (C := RX6) (T := TX6) (N := 21) hx hb hts hiX6 hown hK hP 0 rfl rfl 2 (by decide) (hts (.fieldLink RX6 13 "ShapeRelatorModel" "points" "[I") (List.mem_of_getElem? (i := 1) rfl)) (fun _ h9 => h9) rfl dX6_hasPoint_15 ?_
  refine lv_iload_n hx hb dX6_hasPoint_18 rfl (lv_at hl 3 rfl) ?_
  refine va_iald (D := g) hx hb hK hP 4 0 rfl rfl (vp_in_nI (show sh < 2 by omega) (by omega)) dX6_hasPoint_19 ?_
  refine tpi_ (y := (nI np)) (by rw [nI_clamp (by omega), h1]) ?_
  refine lv_iadd hx hb dX6_hasPoint_20 ?_
  refine tpi_ (y := (nI (2048 * sh + np))) (ix_ 2048 sh np) ?_
  refine lv_icmp_ge (tgt := 40) hx hb dX6_hasPoint_21 (by decide) (fun c1 => ?_) (fun c1 => ?_)
  · have e1 : k = np := by have := i_ge c1 (by omega) (by omega); omega
    refine lv_iload_n hx hb dX6_hasPoint_40 rfl (lv_at hl 1 rfl) ?_
    have hP9 := hP.sub (ws' := [(ma, .inr (6, mo_ th zk zp za zb zx zy sn zf zt zw zm zh x0 y0 dx dy zz cu zo zu)), (zz, .inl (cJ, 192, .inr (.inl z1))), (zx, .inl (cI, 4096, .inl xs)), (zy, .inl (cI, 4096, .inl ys)), (zp, .inl (cI, 2, .inl pt))]) [0, 1, 2, 3, 4] rfl
    have hD9 := hD.sub (ws' := [(ma, .inr (6, mo_ th zk zp za zb zx zy sn zf zt zw zm zh x0 y0 dx dy zz cu zo zu)), (zz, .inl (cJ, 192, .inr (.inl z1))), (zx, .inl (cI, 4096, .inl xs)), (zy, .inl (cI, 4096, .inl ys)), (zp, .inl (cI, 2, .inl pt))]) [0, 1, 2, 3, 4] (by decide) rfl
    exact W.zret (v := (hp_ (fun k => isp_ xs ys x0 y0 dx dy nm dn (2048 * sh + k)) k)) (ty := .boolean) hx hb hr (hp_z (fun k => isp_z) k) (fun t ht hW => ⟨⟨hp_ (fun k => isp_ xs ys x0 y0 dx dy nm dn (2048 * sh + k)) k, z1, rfl, ⟨by rw [e1], i2⟩, by rw [ht]; exact hP9, va_K.moved hW.alike hK, hD9⟩, hS.F ht⟩) hS.2.2 dX6_hasPoint_41
  · have e1 : k < np := by have := i_nge c1 (by omega) (by omega); omega
    refine lv_iload_n hx hb dX6_hasPoint_24 rfl (lv_at hl 1 rfl) ?_
    refine lv_if_ne (tgt := 40) hx hb dX6_hasPoint_25 (by decide) (fun c2 => ?_) (fun c2 => ?_)
    · refine lv_iload_n hx hb dX6_hasPoint_40 rfl (lv_at hl 1 rfl) ?_
      have hP9 := hP.sub (ws' := [(ma, .inr (6, mo_ th zk zp za zb zx zy sn zf zt zw zm zh x0 y0 dx dy zz cu zo zu)), (zz, .inl (cJ, 192, .inr (.inl z1))), (zx, .inl (cI, 4096, .inl xs)), (zy, .inl (cI, 4096, .inl ys)), (zp, .inl (cI, 2, .inl pt))]) [0, 1, 2, 3, 4] rfl
      have hD9 := hD.sub (ws' := [(ma, .inr (6, mo_ th zk zp za zb zx zy sn zf zt zw zm zh x0 y0 dx dy zz cu zo zu)), (zz, .inl (cJ, 192, .inr (.inl z1))), (zx, .inl (cI, 4096, .inl xs)), (zy, .inl (cI, 4096, .inl ys)), (zp, .inl (cI, 2, .inl pt))]) [0, 1, 2, 3, 4] (by decide) rfl
      exact W.zret (v := (hp_ (fun k => isp_ xs ys x0 y0 dx dy nm dn (2048 * sh + k)) k)) (ty := .boolean) hx hb hr (hp_z (fun k => isp_z) k) (fun t ht hW => ⟨⟨hp_ (fun k => isp_ xs ys x0 y0 dx dy nm dn (2048 * sh + k)) k, z1, rfl, ⟨(hp_m c2 np i1).symm, i2⟩, by rw [ht]; exact hP9, va_K.moved hW.alike hK, hD9⟩, hS.F ht⟩) hS.2.2 dX6_hasPoint_41
    · refine lv_aload_n hx hb dX6_hasPoint_28 rfl (lv_at hl 2 rfl) ?_
      refine lv_iload_n hx hb dX6_hasPoint_29 rfl (lv_at hl 0 rfl) ?_
      have hPc := hP.sub (ws' := [(ma, .inr (6, mo_ th zk zp za zb zx zy sn zf zt zw zm zh x0 y0 dx dy zz cu zo zu)), (zz, .inl (cJ, 192, .inr (.inl z1))), (zx, .inl (cI, 4096, .inl xs)), (zy, .inl (cI, 4096, .inl ys))]) [0, 1, 2, 3] rfl
      have hDc := hD.sub (ws' := [(ma, .inr (6, mo_ th zk zp za zb zx zy sn zf zt zw zm zh x0 y0 dx dy zz cu zo zu)), (zz, .inl (cJ, 192, .inr (.inl z1))), (zx, .inl (cI, 4096, .inl xs)), (zy, .inl (cI, 4096, .inl ys))]) [0, 1, 2, 3] (by decide) rfl
      have hFc := va_free (wc := [(ma, .inr (6, mo_ th zk zp za zb zx zy sn zf zt zw zm zh x0 y0 dx dy zz cu zo zu)), (zz, .inl (cJ, 192, .inr (.inl z1))), (zx, .inl (cI, 4096, .inl xs)), (zy, .inl (cI, 4096, .inl ys))]) hD hS hA [0, 1, 2, 3] rfl
      refine va_calli (va_runV (As := [.int (nI (2048 * sh + k))]) (rest := []) ⟨hx, hb, hml, hown, hts⟩ (kX6_isPoint l g cI cJ cZ H.size ma th sn x0 y0 dx dy cu zk zp za zb zx zy zf zt zw zm zh zz zo zu z1 xs ys nm dn (2048 * sh + k) i2 (by omega)) (cwV 1 hts gX6_hasPoint_X6_isPoint rfl rfl rfl (by decide +kernel) ⟨Nat.le_of_ble_eq_true rfl, Nat.le_of_ble_eq_true rfl⟩) (pv_ hK hPc hDc (va_recv hK hPc (ci := 6) (q0 := 0) rfl rfl)) rfl rfl hl.1 rfl (lv_room (Nat.le_of_ble_eq_true rfl)) dX6_hasPoint_30 ⟨Nat.zero_le _, Nat.zero_le _⟩) hS (fun q _ h => hFc q h) hFc (fun r1 u t H1 locs ht hvm wza1 hB hz1 hk1 hS => ?_)
      obtain ⟨za1, rfl⟩ : ∃ z, z = u := ⟨_, rfl⟩
      obtain ⟨hP1, hK1, hD1⟩ := hB
      rw [ht] at hP1
      obtain ⟨hP, hD⟩ := va_join (wr := [(zp, .inl (cI, 2, .inl pt))]) (w1 := [(ma, .inr (6, mo_ th zk zp za zb zx zy sn zf zt zw zm zh x0 y0 dx dy zz cu zo zu)), (zz, .inl (cJ, 192, .inr (.inl za1))), (zx, .inl (cI, 4096, .inl xs)), (zy, .inl (cI, 4096, .inl ys))]) hP hD [0, 1, 2, 3] [4] rfl rfl (by decide) (by decide) hk1 hFc hP1 hD1
      clear hPc hDc hFc hP1 hD1 hK1 hk1 hz1 hvm ht
      generalize H1 = H at hP hS ⊢
      have hP : va_P g vwCl [(zp, .inl (cI, 2, .inl pt)), (ma, .inr (6, mo_ th zk zp za zb zx zy sn zf zt zw zm zh x0 y0 dx dy zz cu zo zu)), (zz, .inl (cJ, 192, .inr (.inl za1))), (zx, .inl (cI, 4096, .inl xs)), (zy, .inl (cI, 4096, .inl ys))] H := hP
      have hD : va_D A [(zp, .inl (cI, 2, .inl pt)), (ma, .inr (6, mo_ th zk zp za zb zx zy sn zf zt zw zm zh x0 y0 dx dy zz cu zo zu)), (zz, .inl (cJ, 192, .inr (.inl za1))), (zx, .inl (cI, 4096, .inl xs)), (zy, .inl (cI, 4096, .inl ys))] := hD
      obtain ⟨eza1, qza1⟩ := wza1
      have eh : hp_ (fun k => isp_ xs ys x0 y0 dx dy nm dn (2048 * sh + k)) (k + 1) = r1 := by rw [hp_, if_pos c2, eza1]
      rw [← eh]
      refine lv_istore_n (lv' := [(2, .int (hp_ (fun k => isp_ xs ys x0 y0 dx dy nm dn (2048 * sh + k)) (k + 1))), (3, .int (nI (2048 * sh + k))), (0, .ref ma), (1, .int (nI sh))]) hx hb dX6_hasPoint_33 rfl hl (by decide) rfl (fun ls hl => ?_)
      refine lv_iinc (v := (nI (2048 * sh + (k + 1)))) (lv' := [(3, .int (nI (2048 * sh + (k + 1)))), (2, .int (hp_ (fun k => isp_ xs ys x0 y0 dx dy nm dn (2048 * sh + k)) (k + 1))), (0, .ref ma), (1, .int (nI sh))]) hx hb dX6_hasPoint_34 hl (k := 1) rfl (nI_1 (2048 * sh + k)) (by decide) rfl (fun ls hl => ?_)
      refine lv_goto (tgt := 8) hx hb dX6_hasPoint_37 (by decide) ?_
      exact ih (k + 1, za1) (by show np - (k + 1) < np - k; omega) H locs ls ⟨⟨e1, qza1⟩, (hP.sub [1, 2, 3, 4, 0] rfl), (hD.sub [1, 2, 3, 4, 0] (by decide) rfl), hS, (lv_sub hl [0, 1, 2, 3] rfl)⟩

theorem ikX6_first_X6 : ∀ w ∈ wsX60, w ∈ wsX6_first := by decide +kernel
set_option maxHeartbeats 1000000 in
set_option maxRecDepth 100000 in
theorem kX6_first (l : Launch) (g : va_G) (cI cJ cZ : ClassId) (sz : Nat) (ma : Nat) (th : Int32) (sn : Int32) (x0 : Int64) (y0 : Int64) (dx : Int64) (dy : Int64) (cu : Int32) (zk : Nat) (zp : Nat) (za : Nat) (zb : Nat) (zx : Nat) (zy : Nat) (zf : Nat) (zt : Nat) (zw : Nat) (zm : Nat) (zh : Nat) (zz : Nat) (zo : Nat) (zu : Nat) (bg : Nat → Int32) (sh : Nat) (p1 : Nat) (v : Nat) (hs : sh < 2) (h1 : p1 < 1025) (h2 : bg (1025 * sh + p1) = nI v) : Met l yX6_first wsX6_first ({ frames := 0, cells := 0, slots := 0, locals := 0 }) (pc_ g cI cJ cZ [.ref ma, .int (nI sh), .int (nI p1)] [(ma, .inr (6, mo_ th zk zp za zb zx zy sn zf zt zw zm zh x0 y0 dx dy zz cu zo zu)), (zb, .inl (cI, 2050, .inl bg))] sz) (va_Qi (fun (r : Int32) (_ : Unit) => r = nI (2048 * sh + v)) (fun (_ : Unit) t => wd_ g cI cJ cZ (va_A [(ma, .inr (6, mo_ th zk zp za zb zx zy sn zf zt zw zm zh x0 y0 dx dy zz cu zo zu)), (zb, .inl (cI, 2050, .inl bg))] sz) [(ma, .inr (6, mo_ th zk zp za zb zx zy sn zf zt zw zm zh x0 y0 dx dy zz cu zo zu)), (zb, .inl (cI, 2050, .inl bg))] t) (va_A [(ma, .inr (6, mo_ th zk zp za zb zx zy sn zf zt zw zm zh x0 y0 dx dy zz cu zo zu)), (zb, .inl (cI, 2050, .inl bg))] sz)) (0) (0) (va_A [(ma, .inr (6, mo_ th zk zp za zb zx zy sn zf zt zw zm zh x0 y0 dx dy zz cu zo zu)), (zb, .inl (cI, 2050, .inl bg))] sz) := by
  refine Met.ofW (cc := cX6_first) (maxL := 3) (ret := (some .int)) (by decide) rfl ?_
  intro p e s m args below meth c s₁ B hml hv
  obtain ⟨rfl, hsz, hP, hK, hD0⟩ := hv
  have hx := B.exec
  have hb := B.bytes
  have hr := B.returns
  have hts := atoms_spec (ws := wsX6_first) B.pre
  have hown : s.vm.findClass RX6 = some m.cls := findClass_of_methodNamed B.named
  have hlocks := B.notSynchronized
  subst hsz
  have hD := hD0.self (sz := s.heap.size)
  generalize hAe : va_A [(ma, .inr (6, mo_ th zk zp za zb zx zy sn zf zt zw zm zh x0 y0 dx dy zz cu zo zu)), (zb, .inl (cI, 2050, .inl bg))] s.heap.size = A at hD ⊢
  have hA : ∀ q : Nat, s.heap.size ≤ q → A q := fun q h => by rw [← hAe]; exact Or.inr h
  have hS : va_S A s.heap s.heap [] := va_S.rf
  have hP : va_P g vwCl [(ma, .inr (6, mo_ th zk zp za zb zx zy sn zf zt zw zm zh x0 y0 dx dy zz cu zo zu)), (zb, .inl (cI, 2050, .inl bg))] s.heap := hP
  have hl := lv_entry ([.ref ma, .int (nI sh), .int (nI p1)]) (n := 3) (Nat.le_of_ble_eq_true rfl)
  rw [lg_entry_eq]
  generalize (lg_sl ([.ref ma, .int (nI sh), .int (nI p1)]) ++ List.replicate (3 - (lg_sl ([.ref ma, .int (nI sh), .int (nI p1)])).length) Slot.unset).toArray = ls at hl ⊢
  have hl : lv_has ls 3 [(0, .ref ma), (1, .int (nI sh)), (2, .int (nI p1))] := hl
  have hH0 : s.heap = s.heap := rfl
  have hiX6 := ikX6_first_X6
  refine lv_sipush (v := 2048) hx hb dX6_first_0 (by decide) ?_
  refine lv_iload_n hx hb dX6_first_3 rfl (lv_at hl 1 rfl) ?_
  refine lv_imul hx hb dX6_first_4 ?_
  refine lv_aload_n hx hb dX6_first_5 rfl (lv_at hl 0 rfl) ?_
  refine va_get (D := g) (ci := 6) (v := .ref zb) (C := RX6) (T := TX6) (N := 21) hx hb hts hiX6 hown hK hP 0 rfl rfl 4 (by decide) (hts (.fieldLink RX6 19 "ShapeRelatorModel" "begins" "[I") (List.mem_of_getElem? (i := 1) rfl)) (fun _ h9 => h9) rfl dX6_first_6 ?_
  refine lv_sipush (v := 1025) hx hb dX6_first_9 (by decide) ?_
  refine lv_iload_n hx hb dX6_first_12 rfl (lv_at hl 1 rfl) ?_
  refine lv_imul hx hb dX6_first_13 ?_
  refine lv_iload_n hx hb dX6_first_14 rfl (lv_at hl 2 rfl) ?_
  refine lv_iadd hx hb dX6_first_15 ?_
  refine tpi_ (y := (nI (1025 * sh + p1))) (ix_ 1025 sh p1) ?_
  refine va_iald (D := g) hx hb hK hP 1 0 rfl rfl (vp_in_nI (show 1025 * sh + p1 < 2050 by omega) (by omega)) dX6_first_16 ?_
  refine tpi_ (y := (nI v)) (by rw [nI_clamp (by omega), h2]) ?_
  refine lv_iadd hx hb dX6_first_17 ?_
  have hP9 := hP.sub (ws' := [(ma, .inr (6, mo_ th zk zp za zb zx zy sn zf zt zw zm zh x0 y0 dx dy zz cu zo zu)), (zb, .inl (cI, 2050, .inl bg))]) [0, 1] rfl
  have hD9 := hD.sub (ws' := [(ma, .inr (6, mo_ th zk zp za zb zx zy sn zf zt zw zm zh x0 y0 dx dy zz cu zo zu)), (zb, .inl (cI, 2050, .inl bg))]) [0, 1] (by decide) rfl
  exact W.iret (v := ((2048 * (nI sh)) + (nI v))) hx hb hr (fun t ht hW => ⟨⟨(2048 * (nI sh)) + (nI v), (), rfl, (ix_ 2048 sh v).symm, by rw [ht]; exact hP9, va_K.moved hW.alike hK, hD9⟩, hS.F ht⟩) hS.2.2 dX6_first_18

theorem ikX6_end_X6 : ∀ w ∈ wsX60, w ∈ wsX6_end := by decide +kernel
set_option maxHeartbeats 1000000 in
set_option maxRecDepth 100000 in
theorem kX6_end (l : Launch) (g : va_G) (cI cJ cZ : ClassId) (sz : Nat) (ma : Nat) (th : Int32) (sn : Int32) (x0 : Int64) (y0 : Int64) (dx : Int64) (dy : Int64) (cu : Int32) (zk : Nat) (zp : Nat) (za : Nat) (zb : Nat) (zx : Nat) (zy : Nat) (zf : Nat) (zt : Nat) (zw : Nat) (zm : Nat) (zh : Nat) (zz : Nat) (zo : Nat) (zu : Nat) (pa : Nat → Int32) (bg : Nat → Int32) (pt : Nat → Int32) (PT : Nat → Nat) (PA : Nat → Nat) (SN : Nat → Nat → Nat) (sh : Nat) (p1 : Nat) (hs : sh < 2) (hst : mst_ pt pa bg PT PA SN) (h1 : p1 < PA sh) : Met l yX6_end wsX6_end ({ frames := 0, cells := 0, slots := 0, locals := 0 }) (pc_ g cI cJ cZ [.ref ma, .int (nI sh), .int (nI p1)] [(ma, .inr (6, mo_ th zk zp za zb zx zy sn zf zt zw zm zh x0 y0 dx dy zz cu zo zu)), (za, .inl (cI, 2, .inl pa)), (zb, .inl (cI, 2050, .inl bg)), (zp, .inl (cI, 2, .inl pt))] sz) (va_Qi (fun (r : Int32) (_ : Unit) => r = nI (2048 * sh + pe_ (SN sh) (PA sh) (PT sh) p1)) (fun (_ : Unit) t => wd_ g cI cJ cZ (va_A [(ma, .inr (6, mo_ th zk zp za zb zx zy sn zf zt zw zm zh x0 y0 dx dy zz cu zo zu)), (za, .inl (cI, 2, .inl pa)), (zb, .inl (cI, 2050, .inl bg)), (zp, .inl (cI, 2, .inl pt))] sz) [(ma, .inr (6, mo_ th zk zp za zb zx zy sn zf zt zw zm zh x0 y0 dx dy zz cu zo zu)), (za, .inl (cI, 2, .inl pa)), (zb, .inl (cI, 2050, .inl bg)), (zp, .inl (cI, 2, .inl pt))] t) (va_A [(ma, .inr (6, mo_ th zk zp za zb zx zy sn zf zt zw zm zh x0 y0 dx dy zz cu zo zu)), (za, .inl (cI, 2, .inl pa)), (zb, .inl (cI, 2050, .inl bg)), (zp, .inl (cI, 2, .inl pt))] sz)) (0) (0) (va_A [(ma, .inr (6, mo_ th zk zp za zb zx zy sn zf zt zw zm zh x0 y0 dx dy zz cu zo zu)), (za, .inl (cI, 2, .inl pa)), (zb, .inl (cI, 2050, .inl bg)), (zp, .inl (cI, 2, .inl pt))] sz) := by
  refine Met.ofW (cc := cX6_end) (maxL := 3) (ret := (some .int)) (by decide) rfl ?_
  intro p e s m args below meth c s₁ B hml hv
  obtain ⟨rfl, hsz, hP, hK, hD0⟩ := hv
  have hx := B.exec
  have hb := B.bytes
  have hr := B.returns
  have hts := atoms_spec (ws := wsX6_end) B.pre
  have hown : s.vm.findClass RX6 = some m.cls := findClass_of_methodNamed B.named
  have hlocks := B.notSynchronized
  subst hsz
  have hD := hD0.self (sz := s.heap.size)
  generalize hAe : va_A [(ma, .inr (6, mo_ th zk zp za zb zx zy sn zf zt zw zm zh x0 y0 dx dy zz cu zo zu)), (za, .inl (cI, 2, .inl pa)), (zb, .inl (cI, 2050, .inl bg)), (zp, .inl (cI, 2, .inl pt))] s.heap.size = A at hD ⊢
  have hA : ∀ q : Nat, s.heap.size ≤ q → A q := fun q h => by rw [← hAe]; exact Or.inr h
  have hS : va_S A s.heap s.heap [] := va_S.rf
  have hP : va_P g vwCl [(ma, .inr (6, mo_ th zk zp za zb zx zy sn zf zt zw zm zh x0 y0 dx dy zz cu zo zu)), (za, .inl (cI, 2, .inl pa)), (zb, .inl (cI, 2050, .inl bg)), (zp, .inl (cI, 2, .inl pt))] s.heap := hP
  have hl := lv_entry ([.ref ma, .int (nI sh), .int (nI p1)]) (n := 3) (Nat.le_of_ble_eq_true rfl)
  rw [lg_entry_eq]
  generalize (lg_sl ([.ref ma, .int (nI sh), .int (nI p1)]) ++ List.replicate (3 - (lg_sl ([.ref ma, .int (nI sh), .int (nI p1)])).length) Slot.unset).toArray = ls at hl ⊢
  have hl : lv_has ls 3 [(0, .ref ma), (1, .int (nI sh)), (2, .int (nI p1))] := hl
  have hH0 : s.heap = s.heap := rfl
  have hiX6 := ikX6_end_X6
  obtain ⟨s1, s2, s3, s4, s5⟩ := hst sh hs
  refine lv_sipush (v := 2048) hx hb dX6_end_0 (by decide) ?_
  refine lv_iload_n hx hb dX6_end_3 rfl (lv_at hl 1 rfl) ?_
  refine lv_imul hx hb dX6_end_4 ?_
  refine lv_iload_n hx hb dX6_end_5 rfl (lv_at hl 2 rfl) ?_
  refine lv_iconst (v := 1) hx hb dX6_end_6 (by decide) ?_
  refine lv_iadd hx hb dX6_end_7 ?_
  refine tpi_ (y := (nI (p1 + 1))) ((nI_1 p1).symm) ?_
  refine lv_aload_n hx hb dX6_end_8 rfl (lv_at hl 0 rfl) ?_
  refine va_get (D := g) (ci := 6) (v := .ref za) (C := RX6) (T := TX6) (N := 21) hx hb hts hiX6 hown hK hP 0 rfl rfl 3 (by decide) (hts (.fieldLink RX6 16 "ShapeRelatorModel" "parts" "[I") (List.mem_of_getElem? (i := 1) rfl)) (fun _ h9 => h9) rfl dX6_end_9 ?_
  refine lv_iload_n hx hb dX6_end_12 rfl (lv_at hl 1 rfl) ?_
  refine va_iald (D := g) hx hb hK hP 1 0 rfl rfl (vp_in_nI (show sh < 2 by omega) (by omega)) dX6_end_13 ?_
  refine tpi_ (y := (nI (PA sh))) (by rw [nI_clamp (by omega), s2]) ?_
  refine lv_icmp_ge (tgt := 34) hx hb dX6_end_14 (by decide) (fun c1 => ?_) (fun c1 => ?_)
  · have e1 : PA sh ≤ p1 + 1 := i_ge c1 (by omega) (by omega)
    refine lv_aload_n hx hb dX6_end_34 rfl (lv_at hl 0 rfl) ?_
    refine va_get (D := g) (ci := 6) (v := .ref zp) (C := RX6) (T := TX6) (N := 21) hx hb hts hiX6 hown hK hP 0 rfl rfl 2 (by decide) (hts (.fieldLink RX6 13 "ShapeRelatorModel" "points" "[I") (List.mem_of_getElem? (i := 3) rfl)) (fun _ h9 => h9) rfl dX6_end_35 ?_
    refine lv_iload_n hx hb dX6_end_38 rfl (lv_at hl 1 rfl) ?_
    refine va_iald (D := g) hx hb hK hP 3 0 rfl rfl (vp_in_nI (show sh < 2 by omega) (by omega)) dX6_end_39 ?_
    refine tpi_ (y := (nI (PT sh))) (by rw [nI_clamp (by omega), s1]) ?_
    refine lv_iadd hx hb dX6_end_40 ?_
    have hP9 := hP.sub (ws' := [(ma, .inr (6, mo_ th zk zp za zb zx zy sn zf zt zw zm zh x0 y0 dx dy zz cu zo zu)), (za, .inl (cI, 2, .inl pa)), (zb, .inl (cI, 2050, .inl bg)), (zp, .inl (cI, 2, .inl pt))]) [0, 1, 2, 3] rfl
    have hD9 := hD.sub (ws' := [(ma, .inr (6, mo_ th zk zp za zb zx zy sn zf zt zw zm zh x0 y0 dx dy zz cu zo zu)), (za, .inl (cI, 2, .inl pa)), (zb, .inl (cI, 2050, .inl bg)), (zp, .inl (cI, 2, .inl pt))]) [0, 1, 2, 3] (by decide) rfl
    exact W.iret (v := ((2048 * (nI sh)) + (nI (PT sh)))) hx hb hr (fun t ht hW => ⟨⟨(2048 * (nI sh)) + (nI (PT sh)), (), rfl, by unfold pe_; rw [if_neg (by omega)]; exact (ix_ 2048 sh (PT sh)).symm, by rw [ht]; exact hP9, va_K.moved hW.alike hK, hD9⟩, hS.F ht⟩) hS.2.2 dX6_end_41
  · have e1 : p1 + 1 < PA sh := i_nge c1 (by omega) (by omega)
    refine lv_aload_n hx hb dX6_end_17 rfl (lv_at hl 0 rfl) ?_
    refine va_get (D := g) (ci := 6) (v := .ref zb) (C := RX6) (T := TX6) (N := 21) hx hb hts hiX6 hown hK hP 0 rfl rfl 4 (by decide) (hts (.fieldLink RX6 19 "ShapeRelatorModel" "begins" "[I") (List.mem_of_getElem? (i := 2) rfl)) (fun _ h9 => h9) rfl dX6_end_18 ?_
    refine lv_sipush (v := 1025) hx hb dX6_end_21 (by decide) ?_
    refine lv_iload_n hx hb dX6_end_24 rfl (lv_at hl 1 rfl) ?_
    refine lv_imul hx hb dX6_end_25 ?_
    refine lv_iload_n hx hb dX6_end_26 rfl (lv_at hl 2 rfl) ?_
    refine lv_iadd hx hb dX6_end_27 ?_
    refine tpi_ (y := (nI (1025 * sh + p1))) (ix_ 1025 sh p1) ?_
    refine lv_iconst (v := 1) hx hb dX6_end_28 (by decide) ?_
    refine lv_iadd hx hb dX6_end_29 ?_
    refine tpi_ (y := (nI (1025 * sh + (p1 + 1)))) ((nI_1 _).symm) ?_
    refine va_iald (D := g) hx hb hK hP 2 0 rfl rfl (vp_in_nI (show 1025 * sh + (p1 + 1) < 2050 by omega) (by omega)) dX6_end_30 ?_
    refine tpi_ (y := (nI (SN sh (p1 + 1)))) (by rw [nI_clamp (by omega), (s5 (p1 + 1) e1).1]) ?_
    refine lv_goto (tgt := 40) hx hb dX6_end_31 (by decide) ?_
    refine lv_iadd hx hb dX6_end_40 ?_
    have hP9 := hP.sub (ws' := [(ma, .inr (6, mo_ th zk zp za zb zx zy sn zf zt zw zm zh x0 y0 dx dy zz cu zo zu)), (za, .inl (cI, 2, .inl pa)), (zb, .inl (cI, 2050, .inl bg)), (zp, .inl (cI, 2, .inl pt))]) [0, 1, 2, 3] rfl
    have hD9 := hD.sub (ws' := [(ma, .inr (6, mo_ th zk zp za zb zx zy sn zf zt zw zm zh x0 y0 dx dy zz cu zo zu)), (za, .inl (cI, 2, .inl pa)), (zb, .inl (cI, 2050, .inl bg)), (zp, .inl (cI, 2, .inl pt))]) [0, 1, 2, 3] (by decide) rfl
    exact W.iret (v := ((2048 * (nI sh)) + (nI (SN sh (p1 + 1))))) hx hb hr (fun t ht hW => ⟨⟨(2048 * (nI sh)) + (nI (SN sh (p1 + 1))), (), rfl, by unfold pe_; rw [if_pos e1]; exact (ix_ 2048 sh _).symm, by rw [ht]; exact hP9, va_K.moved hW.alike hK, hD9⟩, hS.F ht⟩) hS.2.2 dX6_end_41

theorem ikX6_isEnd_X6 : ∀ w ∈ wsX60, w ∈ wsX6_isEnd := by decide +kernel
set_option maxHeartbeats 1000000 in
set_option maxRecDepth 100000 in
theorem kX6_isEnd (l : Launch) (g : va_G) (cI cJ cZ : ClassId) (sz : Nat) (ma : Nat) (th : Int32) (sn : Int32) (x0 : Int64) (y0 : Int64) (dx : Int64) (dy : Int64) (cu : Int32) (zk : Nat) (zp : Nat) (za : Nat) (zb : Nat) (zx : Nat) (zy : Nat) (zf : Nat) (zt : Nat) (zw : Nat) (zm : Nat) (zh : Nat) (zz : Nat) (zo : Nat) (zu : Nat) (z : Nat → Int64) (xs : Nat → Int32) (ys : Nat → Int32) (pa : Nat → Int32) (bg : Nat → Int32) (pt : Nat → Int32) (nm : Int) (dn : Int) (PT : Nat → Nat) (PA : Nat → Nat) (SN : Nat → Nat → Nat) (sh : Nat) (hq : gq_ z nm dn) (hs : sh < 2) (hst : mst_ pt pa bg PT PA SN) : Met l yX6_isEnd wsX6_isEnd ({ frames := 5, cells := 0, slots := 0, locals := 118 }) (pc_ g cI cJ cZ [.ref ma, .int (nI sh)] [(ma, .inr (6, mo_ th zk zp za zb zx zy sn zf zt zw zm zh x0 y0 dx dy zz cu zo zu)), (zz, .inl (cJ, 192, .inr (.inl z))), (zx, .inl (cI, 4096, .inl xs)), (zy, .inl (cI, 4096, .inl ys)), (za, .inl (cI, 2, .inl pa)), (zb, .inl (cI, 2050, .inl bg)), (zp, .inl (cI, 2, .inl pt))] sz) (va_Qi (fun (r : Int32) (z2 : (Nat → Int64)) => r = bo_ (en_ (isp_ xs ys x0 y0 dx dy nm dn) (SN sh) (PA sh) (PT sh) (2048 * sh) (PA sh) % 2 = 1) ∧ gq_ z2 nm dn) (fun (z2 : (Nat → Int64)) t => wd_ g cI cJ cZ (va_A [(ma, .inr (6, mo_ th zk zp za zb zx zy sn zf zt zw zm zh x0 y0 dx dy zz cu zo zu)), (zz, .inl (cJ, 192, .inr (.inl z))), (zx, .inl (cI, 4096, .inl xs)), (zy, .inl (cI, 4096, .inl ys)), (za, .inl (cI, 2, .inl pa)), (zb, .inl (cI, 2050, .inl bg)), (zp, .inl (cI, 2, .inl pt))] sz) [(ma, .inr (6, mo_ th zk zp za zb zx zy sn zf zt zw zm zh x0 y0 dx dy zz cu zo zu)), (zz, .inl (cJ, 192, .inr (.inl z2))), (zx, .inl (cI, 4096, .inl xs)), (zy, .inl (cI, 4096, .inl ys)), (za, .inl (cI, 2, .inl pa)), (zb, .inl (cI, 2050, .inl bg)), (zp, .inl (cI, 2, .inl pt))] t) (va_A [(ma, .inr (6, mo_ th zk zp za zb zx zy sn zf zt zw zm zh x0 y0 dx dy zz cu zo zu)), (zz, .inl (cJ, 192, .inr (.inl z))), (zx, .inl (cI, 4096, .inl xs)), (zy, .inl (cI, 4096, .inl ys)), (za, .inl (cI, 2, .inl pa)), (zb, .inl (cI, 2050, .inl bg)), (zp, .inl (cI, 2, .inl pt))] sz)) (0) (0) (va_A [(ma, .inr (6, mo_ th zk zp za zb zx zy sn zf zt zw zm zh x0 y0 dx dy zz cu zo zu)), (zz, .inl (cJ, 192, .inr (.inl z))), (zx, .inl (cI, 4096, .inl xs)), (zy, .inl (cI, 4096, .inl ys)), (za, .inl (cI, 2, .inl pa)), (zb, .inl (cI, 2050, .inl bg)), (zp, .inl (cI, 2, .inl pt))] sz) := by
  refine Met.ofW (cc := cX6_isEnd) (maxL := 6) (ret := (some .boolean)) (by decide) rfl ?_
  intro p e s m args below meth c s₁ B hml hv
  obtain ⟨rfl, hsz, hP, hK, hD0⟩ := hv
  have hx := B.exec
  have hb := B.bytes
  have hr := B.returns
  have hts := atoms_spec (ws := wsX6_isEnd) B.pre
  have hown : s.vm.findClass RX6 = some m.cls := findClass_of_methodNamed B.named
  have hlocks := B.notSynchronized
  subst hsz
  have hD := hD0.self (sz := s.heap.size)
  generalize hAe : va_A [(ma, .inr (6, mo_ th zk zp za zb zx zy sn zf zt zw zm zh x0 y0 dx dy zz cu zo zu)), (zz, .inl (cJ, 192, .inr (.inl z))), (zx, .inl (cI, 4096, .inl xs)), (zy, .inl (cI, 4096, .inl ys)), (za, .inl (cI, 2, .inl pa)), (zb, .inl (cI, 2050, .inl bg)), (zp, .inl (cI, 2, .inl pt))] s.heap.size = A at hD ⊢
  have hA : ∀ q : Nat, s.heap.size ≤ q → A q := fun q h => by rw [← hAe]; exact Or.inr h
  have hS : va_S A s.heap s.heap [] := va_S.rf
  have hP : va_P g vwCl [(ma, .inr (6, mo_ th zk zp za zb zx zy sn zf zt zw zm zh x0 y0 dx dy zz cu zo zu)), (zz, .inl (cJ, 192, .inr (.inl z))), (zx, .inl (cI, 4096, .inl xs)), (zy, .inl (cI, 4096, .inl ys)), (za, .inl (cI, 2, .inl pa)), (zb, .inl (cI, 2050, .inl bg)), (zp, .inl (cI, 2, .inl pt))] s.heap := hP
  have hl := lv_entry ([.ref ma, .int (nI sh)]) (n := 6) (Nat.le_of_ble_eq_true rfl)
  rw [lg_entry_eq]
  generalize (lg_sl ([.ref ma, .int (nI sh)]) ++ List.replicate (6 - (lg_sl ([.ref ma, .int (nI sh)])).length) Slot.unset).toArray = ls at hl ⊢
  have hl : lv_has ls 6 [(0, .ref ma), (1, .int (nI sh))] := hl
  have hH0 : s.heap = s.heap := rfl
  have hiX6 := ikX6_isEnd_X6
  obtain ⟨s1, s2, s3, s4, s5⟩ := id (hst sh hs)
  refine lv_iconst (v := 0) hx hb dX6_isEnd_0 (by decide) ?_
  refine lv_istore_n (lv' := [(2, .int 0), (0, .ref ma), (1, .int (nI sh))]) hx hb dX6_isEnd_1 rfl hl (by decide) rfl (fun ls hl => ?_)
  refine lv_iconst (v := 0) hx hb dX6_isEnd_2 (by decide) ?_
  refine lv_istore_n (lv' := [(3, .int 0), (2, .int 0), (0, .ref ma), (1, .int (nI sh))]) hx hb dX6_isEnd_3 rfl hl (by decide) rfl (fun ls hl => ?_)
  refine lpW (σ := Nat × (Nat → Int64)) (fun (k, z1) => PA sh - k) (fun (k, z1) => 0) (fun (k, z1) => 0) (fun (k, z1) H locs ls => (k ≤ PA sh ∧ gq_ z1 nm dn) ∧ va_P g vwCl [(ma, .inr (6, mo_ th zk zp za zb zx zy sn zf zt zw zm zh x0 y0 dx dy zz cu zo zu)), (zz, .inl (cJ, 192, .inr (.inl z1))), (zx, .inl (cI, 4096, .inl xs)), (zy, .inl (cI, 4096, .inl ys)), (za, .inl (cI, 2, .inl pa)), (zb, .inl (cI, 2050, .inl bg)), (zp, .inl (cI, 2, .inl pt))] H ∧ va_D A [(ma, .inr (6, mo_ th zk zp za zb zx zy sn zf zt zw zm zh x0 y0 dx dy zz cu zo zu)), (zz, .inl (cJ, 192, .inr (.inl z1))), (zx, .inl (cI, 4096, .inl xs)), (zy, .inl (cI, 4096, .inl ys)), (za, .inl (cI, 2, .inl pa)), (zb, .inl (cI, 2050, .inl bg)), (zp, .inl (cI, 2, .inl pt))] ∧ va_S A s.heap H locs ∧ lv_has ls 6 [(3, .int (nI k)), (2, .int (nI (en_ (isp_ xs ys x0 y0 dx dy nm dn) (SN sh) (PA sh) (PT sh) (2048 * sh) k))), (0, .ref ma), (1, .int (nI sh))]) (fun x ih H locs ls hI => ?_) (0, z) rfl rfl ⟨⟨Nat.zero_le _, hq⟩, hP, hD, hS, (lv_sub hl [0, 1, 2, 3] rfl)⟩
  obtain ⟨k, z1⟩ := x
  obtain ⟨hi, hP, hD, hS, hl⟩ := hI
  have hP : va_P g vwCl [(ma, .inr (6, mo_ th zk zp za zb zx zy sn zf zt zw zm zh x0 y0 dx dy zz cu zo zu)), (zz, .inl (cJ, 192, .inr (.inl z1))), (zx, .inl (cI, 4096, .inl xs)), (zy, .inl (cI, 4096, .inl ys)), (za, .inl (cI, 2, .inl pa)), (zb, .inl (cI, 2050, .inl bg)), (zp, .inl (cI, 2, .inl pt))] H := hP
  have hD : va_D A [(ma, .inr (6, mo_ th zk zp za zb zx zy sn zf zt zw zm zh x0 y0 dx dy zz cu zo zu)), (zz, .inl (cJ, 192, .inr (.inl z1))), (zx, .inl (cI, 4096, .inl xs)), (zy, .inl (cI, 4096, .inl ys)), (za, .inl (cI, 2, .inl pa)), (zb, .inl (cI, 2050, .inl bg)), (zp, .inl (cI, 2, .inl pt))] := hD
  have hl : lv_has ls 6 [(3, .int (nI k)), (2, .int (nI (en_ (isp_ xs ys x0 y0 dx dy nm dn) (SN sh) (PA sh) (PT sh) (2048 * sh) k))), (0, .ref ma), (1, .int (nI sh))] := hl
  show W p l e _ s m _ below meth c H locs (0) (0) _ (F0 m 4 ls [])
  obtain ⟨i1, i2⟩ := hi
  have hen := en_l (f := isp_ xs ys x0 y0 dx dy nm dn) (sn := SN sh) (P := PA sh) (N := PT sh) (o := 2048 * sh) k
  refine lv_iload_n hx hb dX6_isEnd_4 rfl (lv_at hl 0 rfl) ?_
  refine lv_aload_n hx hb dX6_isEnd_5 rfl (lv_at hl 2 rfl) ?_
  refine va_get (D := g) (ci := 6) (v := .ref za) (C := RX6) (T := TX6) (N := 21) hx hb hts hiX6 hown hK hP 0 rfl rfl 3 (by decide) (hts (.fieldLink RX6 16 "ShapeRelatorModel" "parts" "[I") (List.mem_of_getElem? (i := 1) rfl)) (fun _ h9 => h9) rfl dX6_isEnd_6 ?_
  refine lv_iload_n hx hb dX6_isEnd_9 rfl (lv_at hl 3 rfl) ?_
  refine va_iald (D := g) hx hb hK hP 4 0 rfl rfl (vp_in_nI (show sh < 2 by omega) (by omega)) dX6_isEnd_10 ?_
  refine tpi_ (y := (nI (PA sh))) (by rw [nI_clamp (by omega), s2]) ?_
  refine lv_icmp_ge (tgt := 77) hx hb dX6_isEnd_11 (by decide) (fun c1 => ?_) (fun c1 => ?_)
  · have e1 : k = PA sh := by have := i_ge c1 (by omega) (by omega); omega
    refine lv_iload_n hx hb dX6_isEnd_77 rfl (lv_at hl 1 rfl) ?_
    refine lv_iconst (v := 2) hx hb dX6_isEnd_78 (by decide) ?_
    refine lv_irem hx hb dX6_isEnd_79 (by decide) ?_
    refine tpi_ (y := (nI (en_ (isp_ xs ys x0 y0 dx dy nm dn) (SN sh) (PA sh) (PT sh) (2048 * sh) k % 2))) ((pk_rem (d := 2) (by omega) (by decide) (by decide)).symm) ?_
    refine lv_iconst (v := 1) hx hb dX6_isEnd_80 (by decide) ?_
    refine lv_icmp_ne (tgt := 88) hx hb dX6_isEnd_81 (by decide) (fun c2 => ?_) (fun c2 => ?_)
    · refine lv_iconst (v := 0) hx hb dX6_isEnd_88 (by decide) ?_
      have hP9 := hP.sub (ws' := [(ma, .inr (6, mo_ th zk zp za zb zx zy sn zf zt zw zm zh x0 y0 dx dy zz cu zo zu)), (zz, .inl (cJ, 192, .inr (.inl z1))), (zx, .inl (cI, 4096, .inl xs)), (zy, .inl (cI, 4096, .inl ys)), (za, .inl (cI, 2, .inl pa)), (zb, .inl (cI, 2050, .inl bg)), (zp, .inl (cI, 2, .inl pt))]) [0, 1, 2, 3, 4, 5, 6] rfl
      have hD9 := hD.sub (ws' := [(ma, .inr (6, mo_ th zk zp za zb zx zy sn zf zt zw zm zh x0 y0 dx dy zz cu zo zu)), (zz, .inl (cJ, 192, .inr (.inl z1))), (zx, .inl (cI, 4096, .inl xs)), (zy, .inl (cI, 4096, .inl ys)), (za, .inl (cI, 2, .inl pa)), (zb, .inl (cI, 2050, .inl bg)), (zp, .inl (cI, 2, .inl pt))]) [0, 1, 2, 3, 4, 5, 6] (by decide) rfl
      exact W.zret (v := 0) (ty := .boolean) hx hb hr (by decide +kernel) (fun t ht hW => ⟨⟨0, z1, rfl, ⟨bo_f (fun h => c2 (by rw [e1, h]; rfl)), i2⟩, by rw [ht]; exact hP9, va_K.moved hW.alike hK, hD9⟩, hS.F ht⟩) hS.2.2 dX6_isEnd_89
    · refine lv_iconst (v := 1) hx hb dX6_isEnd_84 (by decide) ?_
      refine lv_goto (tgt := 89) hx hb dX6_isEnd_85 (by decide) ?_
      have hP9 := hP.sub (ws' := [(ma, .inr (6, mo_ th zk zp za zb zx zy sn zf zt zw zm zh x0 y0 dx dy zz cu zo zu)), (zz, .inl (cJ, 192, .inr (.inl z1))), (zx, .inl (cI, 4096, .inl xs)), (zy, .inl (cI, 4096, .inl ys)), (za, .inl (cI, 2, .inl pa)), (zb, .inl (cI, 2050, .inl bg)), (zp, .inl (cI, 2, .inl pt))]) [0, 1, 2, 3, 4, 5, 6] rfl
      have hD9 := hD.sub (ws' := [(ma, .inr (6, mo_ th zk zp za zb zx zy sn zf zt zw zm zh x0 y0 dx dy zz cu zo zu)), (zz, .inl (cJ, 192, .inr (.inl z1))), (zx, .inl (cI, 4096, .inl xs)), (zy, .inl (cI, 4096, .inl ys)), (za, .inl (cI, 2, .inl pa)), (zb, .inl (cI, 2050, .inl bg)), (zp, .inl (cI, 2, .inl pt))]) [0, 1, 2, 3, 4, 5, 6] (by decide) rfl
      exact W.zret (v := 1) (ty := .boolean) hx hb hr (by decide +kernel) (fun t ht hW => ⟨⟨1, z1, rfl, ⟨bo_t (by have q9 := (nI_eq (b := 1) (by omega) (by decide)).mp c2; rw [e1] at q9; exact q9), i2⟩, by rw [ht]; exact hP9, va_K.moved hW.alike hK, hD9⟩, hS.F ht⟩) hS.2.2 dX6_isEnd_89
  · have e1 : k < PA sh := i_nge c1 (by omega) (by omega)
    have e2 := s5 k e1
    have e3 : pe_ (SN sh) (PA sh) (PT sh) k ≤ PT sh := by unfold pe_; split; (· exact (s5 _ (by assumption)).2); exact Nat.le_refl _
    refine lv_aload_n hx hb dX6_isEnd_14 rfl (lv_at hl 2 rfl) ?_
    refine lv_iload_n hx hb dX6_isEnd_15 rfl (lv_at hl 3 rfl) ?_
    refine lv_iload_n hx hb dX6_isEnd_16 rfl (lv_at hl 0 rfl) ?_
    have hPc := hP.sub (ws' := [(ma, .inr (6, mo_ th zk zp za zb zx zy sn zf zt zw zm zh x0 y0 dx dy zz cu zo zu)), (zb, .inl (cI, 2050, .inl bg))]) [0, 5] rfl
    have hDc := hD.sub (ws' := [(ma, .inr (6, mo_ th zk zp za zb zx zy sn zf zt zw zm zh x0 y0 dx dy zz cu zo zu)), (zb, .inl (cI, 2050, .inl bg))]) [0, 5] (by decide) rfl
    have hFc := va_free (wc := [(ma, .inr (6, mo_ th zk zp za zb zx zy sn zf zt zw zm zh x0 y0 dx dy zz cu zo zu)), (zb, .inl (cI, 2050, .inl bg))]) hD hS hA [0, 5] rfl
    refine va_calli (va_runV (As := [.int (nI sh), .int (nI k)]) (rest := []) ⟨hx, hb, hml, hown, hts⟩ (kX6_first l g cI cJ cZ H.size ma th sn x0 y0 dx dy cu zk zp za zb zx zy zf zt zw zm zh zz zo zu bg sh k (SN sh k) hs (by omega) e2.1) (cwV 2 hts gX6_isEnd_X6_first rfl rfl rfl (by decide +kernel) ⟨Nat.le_of_ble_eq_true rfl, Nat.le_of_ble_eq_true rfl⟩) (pv_ hK hPc hDc (va_recv hK hPc (ci := 6) (q0 := 0) rfl rfl)) rfl rfl hl.1 rfl (lv_room (Nat.le_of_ble_eq_true rfl)) dX6_isEnd_17 ⟨Nat.zero_le _, Nat.zero_le _⟩) hS (fun q _ h => hFc q h) hFc (fun r1 u t H1 locs ht hvm hw1 hB hz1 hk1 hS => ?_)
    obtain ⟨hP1, hK1, hD1⟩ := hB
    rw [ht] at hP1
    obtain ⟨hP, hD⟩ := va_join (wr := [(zz, .inl (cJ, 192, .inr (.inl z1))), (zx, .inl (cI, 4096, .inl xs)), (zy, .inl (cI, 4096, .inl ys)), (za, .inl (cI, 2, .inl pa)), (zp, .inl (cI, 2, .inl pt))]) (w1 := [(ma, .inr (6, mo_ th zk zp za zb zx zy sn zf zt zw zm zh x0 y0 dx dy zz cu zo zu)), (zb, .inl (cI, 2050, .inl bg))]) hP hD [0, 5] [1, 2, 3, 4, 6] rfl rfl (by decide) (by decide) hk1 hFc hP1 hD1
    clear hPc hDc hFc hP1 hD1 hK1 hk1 hz1 hvm ht
    generalize H1 = H at hP hS ⊢
    have hP : va_P g vwCl [(zz, .inl (cJ, 192, .inr (.inl z1))), (zx, .inl (cI, 4096, .inl xs)), (zy, .inl (cI, 4096, .inl ys)), (za, .inl (cI, 2, .inl pa)), (zp, .inl (cI, 2, .inl pt)), (ma, .inr (6, mo_ th zk zp za zb zx zy sn zf zt zw zm zh x0 y0 dx dy zz cu zo zu)), (zb, .inl (cI, 2050, .inl bg))] H := hP
    have hD : va_D A [(zz, .inl (cJ, 192, .inr (.inl z1))), (zx, .inl (cI, 4096, .inl xs)), (zy, .inl (cI, 4096, .inl ys)), (za, .inl (cI, 2, .inl pa)), (zp, .inl (cI, 2, .inl pt)), (ma, .inr (6, mo_ th zk zp za zb zx zy sn zf zt zw zm zh x0 y0 dx dy zz cu zo zu)), (zb, .inl (cI, 2050, .inl bg))] := hD
    subst hw1
    refine lv_istore (lv' := [(4, .int (nI (2048 * sh + SN sh k))), (3, .int (nI k)), (2, .int (nI (en_ (isp_ xs ys x0 y0 dx dy nm dn) (SN sh) (PA sh) (PT sh) (2048 * sh) k))), (0, .ref ma), (1, .int (nI sh))]) hx hb dX6_isEnd_20 hl (by decide) rfl (fun ls hl => ?_)
    refine lv_aload_n hx hb dX6_isEnd_22 rfl (lv_at hl 3 rfl) ?_
    refine lv_iload_n hx hb dX6_isEnd_23 rfl (lv_at hl 4 rfl) ?_
    refine lv_iload_n hx hb dX6_isEnd_24 rfl (lv_at hl 1 rfl) ?_
    have hPc := hP.sub (ws' := [(ma, .inr (6, mo_ th zk zp za zb zx zy sn zf zt zw zm zh x0 y0 dx dy zz cu zo zu)), (za, .inl (cI, 2, .inl pa)), (zb, .inl (cI, 2050, .inl bg)), (zp, .inl (cI, 2, .inl pt))]) [5, 3, 6, 4] rfl
    have hDc := hD.sub (ws' := [(ma, .inr (6, mo_ th zk zp za zb zx zy sn zf zt zw zm zh x0 y0 dx dy zz cu zo zu)), (za, .inl (cI, 2, .inl pa)), (zb, .inl (cI, 2050, .inl bg)), (zp, .inl (cI, 2, .inl pt))]) [5, 3, 6, 4] (by decide) rfl
    have hFc := va_free (wc := [(ma, .inr (6, mo_ th zk zp za zb zx zy sn zf zt zw zm zh x0 y0 dx dy zz cu zo zu)), (za, .inl (cI, 2, .inl pa)), (zb, .inl (cI, 2050, .inl bg)), (zp, .inl (cI, 2, .inl pt))]) hD hS hA [5, 3, 6, 4] rfl
    refine va_calli (va_runV (As := [.int (nI sh), .int (nI k)]) (rest := []) ⟨hx, hb, hml, hown, hts⟩ (kX6_end l g cI cJ cZ H.size ma th sn x0 y0 dx dy cu zk zp za zb zx zy zf zt zw zm zh zz zo zu pa bg pt PT PA SN sh k hs hst e1) (cwV 2 hts gX6_isEnd_X6_end rfl rfl rfl (by decide +kernel) ⟨Nat.le_of_ble_eq_true rfl, Nat.le_of_ble_eq_true rfl⟩) (pv_ hK hPc hDc (va_recv hK hPc (ci := 6) (q0 := 0) rfl rfl)) rfl rfl hl.1 rfl (lv_room (Nat.le_of_ble_eq_true rfl)) dX6_isEnd_25 ⟨Nat.zero_le _, Nat.zero_le _⟩) hS (fun q _ h => hFc q h) hFc (fun r2 u t H1 locs ht hvm hw2 hB hz1 hk1 hS => ?_)
    obtain ⟨hP1, hK1, hD1⟩ := hB
    rw [ht] at hP1
    obtain ⟨hP, hD⟩ := va_join (wr := [(zz, .inl (cJ, 192, .inr (.inl z1))), (zx, .inl (cI, 4096, .inl xs)), (zy, .inl (cI, 4096, .inl ys))]) (w1 := [(ma, .inr (6, mo_ th zk zp za zb zx zy sn zf zt zw zm zh x0 y0 dx dy zz cu zo zu)), (za, .inl (cI, 2, .inl pa)), (zb, .inl (cI, 2050, .inl bg)), (zp, .inl (cI, 2, .inl pt))]) hP hD [5, 3, 6, 4] [0, 1, 2] rfl rfl (by decide) (by decide) hk1 hFc hP1 hD1
    clear hPc hDc hFc hP1 hD1 hK1 hk1 hz1 hvm ht
    generalize H1 = H at hP hS ⊢
    have hP : va_P g vwCl [(zz, .inl (cJ, 192, .inr (.inl z1))), (zx, .inl (cI, 4096, .inl xs)), (zy, .inl (cI, 4096, .inl ys)), (ma, .inr (6, mo_ th zk zp za zb zx zy sn zf zt zw zm zh x0 y0 dx dy zz cu zo zu)), (za, .inl (cI, 2, .inl pa)), (zb, .inl (cI, 2050, .inl bg)), (zp, .inl (cI, 2, .inl pt))] H := hP
    have hD : va_D A [(zz, .inl (cJ, 192, .inr (.inl z1))), (zx, .inl (cI, 4096, .inl xs)), (zy, .inl (cI, 4096, .inl ys)), (ma, .inr (6, mo_ th zk zp za zb zx zy sn zf zt zw zm zh x0 y0 dx dy zz cu zo zu)), (za, .inl (cI, 2, .inl pa)), (zb, .inl (cI, 2050, .inl bg)), (zp, .inl (cI, 2, .inl pt))] := hD
    subst hw2
    refine lv_istore (lv' := [(5, .int (nI (2048 * sh + pe_ (SN sh) (PA sh) (PT sh) k))), (4, .int (nI (2048 * sh + SN sh k))), (3, .int (nI k)), (2, .int (nI (en_ (isp_ xs ys x0 y0 dx dy nm dn) (SN sh) (PA sh) (PT sh) (2048 * sh) k))), (0, .ref ma), (1, .int (nI sh))]) hx hb dX6_isEnd_28 hl (by decide) rfl (fun ls hl => ?_)
    refine lv_iload hx hb dX6_isEnd_30 (lv_at hl 0 rfl) ?_
    refine lv_iload hx hb dX6_isEnd_32 (lv_at hl 1 rfl) ?_
    refine lv_icmp_le (tgt := 71) hx hb dX6_isEnd_34 (by decide) (fun c2 => ?_) (fun c2 => ?_)
    · have e4 : pe_ (SN sh) (PA sh) (PT sh) k ≤ SN sh k := by have := i_ge c2 (by omega) (by omega); omega
      have en1 : en_ (isp_ xs ys x0 y0 dx dy nm dn) (SN sh) (PA sh) (PT sh) (2048 * sh) (k + 1) = en_ (isp_ xs ys x0 y0 dx dy nm dn) (SN sh) (PA sh) (PT sh) (2048 * sh) k := by rw [en_, if_neg (by omega)]; rfl
      rw [← en1] at hl
      have hl : lv_has ls 6 [(5, .int (nI (2048 * sh + pe_ (SN sh) (PA sh) (PT sh) k))), (4, .int (nI (2048 * sh + SN sh k))), (3, .int (nI k)), (2, .int (nI (en_ (isp_ xs ys x0 y0 dx dy nm dn) (SN sh) (PA sh) (PT sh) (2048 * sh) (k + 1)))), (0, .ref ma), (1, .int (nI sh))] := hl
      refine lv_iinc (v := (nI (k + 1))) (lv' := [(3, .int (nI (k + 1))), (5, .int (nI (2048 * sh + pe_ (SN sh) (PA sh) (PT sh) k))), (4, .int (nI (2048 * sh + SN sh k))), (2, .int (nI (en_ (isp_ xs ys x0 y0 dx dy nm dn) (SN sh) (PA sh) (PT sh) (2048 * sh) (k + 1)))), (0, .ref ma), (1, .int (nI sh))]) hx hb dX6_isEnd_71 hl (k := 2) rfl (nI_1 k) (by decide) rfl (fun ls hl => ?_)
      refine lv_goto (tgt := 4) hx hb dX6_isEnd_74 (by decide) ?_
      exact ih (k + 1, z1) (by show PA sh - (k + 1) < PA sh - k; omega) H locs ls ⟨⟨e1, i2⟩, (hP.sub [3, 0, 1, 2, 4, 5, 6] rfl), (hD.sub [3, 0, 1, 2, 4, 5, 6] (by decide) rfl), hS, (lv_sub hl [0, 3, 4, 5] rfl)⟩
    · have e4 : SN sh k < pe_ (SN sh) (PA sh) (PT sh) k := by have := i_nge c2 (by omega) (by omega); omega
      refine lv_iload_n hx hb dX6_isEnd_37 rfl (lv_at hl 3 rfl) ?_
      refine lv_aload_n hx hb dX6_isEnd_38 rfl (lv_at hl 4 rfl) ?_
      refine lv_iload hx hb dX6_isEnd_39 (lv_at hl 1 rfl) ?_
      have hPc := hP.sub (ws' := [(ma, .inr (6, mo_ th zk zp za zb zx zy sn zf zt zw zm zh x0 y0 dx dy zz cu zo zu)), (zz, .inl (cJ, 192, .inr (.inl z1))), (zx, .inl (cI, 4096, .inl xs)), (zy, .inl (cI, 4096, .inl ys))]) [3, 0, 1, 2] rfl
      have hDc := hD.sub (ws' := [(ma, .inr (6, mo_ th zk zp za zb zx zy sn zf zt zw zm zh x0 y0 dx dy zz cu zo zu)), (zz, .inl (cJ, 192, .inr (.inl z1))), (zx, .inl (cI, 4096, .inl xs)), (zy, .inl (cI, 4096, .inl ys))]) [3, 0, 1, 2] (by decide) rfl
      have hFc := va_free (wc := [(ma, .inr (6, mo_ th zk zp za zb zx zy sn zf zt zw zm zh x0 y0 dx dy zz cu zo zu)), (zz, .inl (cJ, 192, .inr (.inl z1))), (zx, .inl (cI, 4096, .inl xs)), (zy, .inl (cI, 4096, .inl ys))]) hD hS hA [3, 0, 1, 2] rfl
      refine va_calli (va_runV (As := [.int (nI (2048 * sh + SN sh k))]) (rest := [.int (nI (en_ (isp_ xs ys x0 y0 dx dy nm dn) (SN sh) (PA sh) (PT sh) (2048 * sh) k))]) ⟨hx, hb, hml, hown, hts⟩ (kX6_isPoint l g cI cJ cZ H.size ma th sn x0 y0 dx dy cu zk zp za zb zx zy zf zt zw zm zh zz zo zu z1 xs ys nm dn (2048 * sh + SN sh k) i2 (by omega)) (cwV 1 hts gX6_isEnd_X6_isPoint rfl rfl rfl (by decide +kernel) ⟨Nat.le_of_ble_eq_true rfl, Nat.le_of_ble_eq_true rfl⟩) (pv_ hK hPc hDc (va_recv hK hPc (ci := 6) (q0 := 0) rfl rfl)) rfl rfl hl.1 rfl (lv_room (Nat.le_of_ble_eq_true rfl)) dX6_isEnd_41 ⟨Nat.zero_le _, Nat.zero_le _⟩) hS (fun q _ h => hFc q h) hFc (fun r3 u t H1 locs ht hvm wza1 hB hz1 hk1 hS => ?_)
      obtain ⟨za1, rfl⟩ : ∃ z, z = u := ⟨_, rfl⟩
      obtain ⟨hP1, hK1, hD1⟩ := hB
      rw [ht] at hP1
      obtain ⟨hP, hD⟩ := va_join (wr := [(za, .inl (cI, 2, .inl pa)), (zb, .inl (cI, 2050, .inl bg)), (zp, .inl (cI, 2, .inl pt))]) (w1 := [(ma, .inr (6, mo_ th zk zp za zb zx zy sn zf zt zw zm zh x0 y0 dx dy zz cu zo zu)), (zz, .inl (cJ, 192, .inr (.inl za1))), (zx, .inl (cI, 4096, .inl xs)), (zy, .inl (cI, 4096, .inl ys))]) hP hD [3, 0, 1, 2] [4, 5, 6] rfl rfl (by decide) (by decide) hk1 hFc hP1 hD1
      clear hPc hDc hFc hP1 hD1 hK1 hk1 hz1 hvm ht
      generalize H1 = H at hP hS ⊢
      have hP : va_P g vwCl [(za, .inl (cI, 2, .inl pa)), (zb, .inl (cI, 2050, .inl bg)), (zp, .inl (cI, 2, .inl pt)), (ma, .inr (6, mo_ th zk zp za zb zx zy sn zf zt zw zm zh x0 y0 dx dy zz cu zo zu)), (zz, .inl (cJ, 192, .inr (.inl za1))), (zx, .inl (cI, 4096, .inl xs)), (zy, .inl (cI, 4096, .inl ys))] H := hP
      have hD : va_D A [(za, .inl (cI, 2, .inl pa)), (zb, .inl (cI, 2050, .inl bg)), (zp, .inl (cI, 2, .inl pt)), (ma, .inr (6, mo_ th zk zp za zb zx zy sn zf zt zw zm zh x0 y0 dx dy zz cu zo zu)), (zz, .inl (cJ, 192, .inr (.inl za1))), (zx, .inl (cI, 4096, .inl xs)), (zy, .inl (cI, 4096, .inl ys))] := hD
      obtain ⟨eza1, qza1⟩ := wza1
      subst eza1
      refine jnV (α := Int32) (ls := ls) (pc2 := 52) (fun v => v = (if isp_ xs ys x0 y0 dx dy nm dn (2048 * sh + SN sh k) = 0 then (0 : Int32) else 1)) (fun v => [.int v, .int (nI (en_ (isp_ xs ys x0 y0 dx dy nm dn) (SN sh) (PA sh) (PT sh) (2048 * sh) k))]) (fun J => ?_) (fun v hv => ?_)
      · refine lv_if_eq (tgt := 51) hx hb dX6_isEnd_44 (by decide) (fun cj => ?_) (fun cj => ?_)
        · refine lv_iconst (v := 0) hx hb dX6_isEnd_51 (by decide) ?_
          exact J _ (by rw [if_pos cj])
        · refine lv_iconst (v := 1) hx hb dX6_isEnd_47 (by decide) ?_
          refine lv_goto (tgt := 52) hx hb dX6_isEnd_48 (by decide) ?_
          exact J _ (by rw [if_neg cj])
      · subst hv
        refine lv_aload_n hx hb dX6_isEnd_52 rfl (lv_at hl 4 rfl) ?_
        refine lv_iload hx hb dX6_isEnd_53 (lv_at hl 0 rfl) ?_
        refine lv_iconst (v := 1) hx hb dX6_isEnd_55 (by decide) ?_
        refine lv_isub hx hb dX6_isEnd_56 ?_
        refine tpi_ (y := (nI (2048 * sh + pe_ (SN sh) (PA sh) (PT sh) k - 1))) ((pk_sub (a := 2048 * sh + pe_ (SN sh) (PA sh) (PT sh) k) (b := 1) (by omega)).symm) ?_
        have hPc := hP.sub (ws' := [(ma, .inr (6, mo_ th zk zp za zb zx zy sn zf zt zw zm zh x0 y0 dx dy zz cu zo zu)), (zz, .inl (cJ, 192, .inr (.inl za1))), (zx, .inl (cI, 4096, .inl xs)), (zy, .inl (cI, 4096, .inl ys))]) [3, 4, 5, 6] rfl
        have hDc := hD.sub (ws' := [(ma, .inr (6, mo_ th zk zp za zb zx zy sn zf zt zw zm zh x0 y0 dx dy zz cu zo zu)), (zz, .inl (cJ, 192, .inr (.inl za1))), (zx, .inl (cI, 4096, .inl xs)), (zy, .inl (cI, 4096, .inl ys))]) [3, 4, 5, 6] (by decide) rfl
        have hFc := va_free (wc := [(ma, .inr (6, mo_ th zk zp za zb zx zy sn zf zt zw zm zh x0 y0 dx dy zz cu zo zu)), (zz, .inl (cJ, 192, .inr (.inl za1))), (zx, .inl (cI, 4096, .inl xs)), (zy, .inl (cI, 4096, .inl ys))]) hD hS hA [3, 4, 5, 6] rfl
        refine va_calli (va_runV (As := [.int (nI (2048 * sh + pe_ (SN sh) (PA sh) (PT sh) k - 1))]) (rest := [.int (if isp_ xs ys x0 y0 dx dy nm dn (2048 * sh + SN sh k) = 0 then (0 : Int32) else 1), .int (nI (en_ (isp_ xs ys x0 y0 dx dy nm dn) (SN sh) (PA sh) (PT sh) (2048 * sh) k))]) ⟨hx, hb, hml, hown, hts⟩ (kX6_isPoint l g cI cJ cZ H.size ma th sn x0 y0 dx dy cu zk zp za zb zx zy zf zt zw zm zh zz zo zu za1 xs ys nm dn (2048 * sh + pe_ (SN sh) (PA sh) (PT sh) k - 1) qza1 (by omega)) (cwV 1 hts gX6_isEnd_X6_isPoint rfl rfl rfl (by decide +kernel) ⟨Nat.le_of_ble_eq_true rfl, Nat.le_of_ble_eq_true rfl⟩) (pv_ hK hPc hDc (va_recv hK hPc (ci := 6) (q0 := 0) rfl rfl)) rfl rfl hl.1 rfl (lv_room (Nat.le_of_ble_eq_true rfl)) dX6_isEnd_57 ⟨Nat.zero_le _, Nat.zero_le _⟩) hS (fun q _ h => hFc q h) hFc (fun r4 u t H1 locs ht hvm wza2 hB hz1 hk1 hS => ?_)
        obtain ⟨za2, rfl⟩ : ∃ z, z = u := ⟨_, rfl⟩
        obtain ⟨hP1, hK1, hD1⟩ := hB
        rw [ht] at hP1
        obtain ⟨hP, hD⟩ := va_join (wr := [(za, .inl (cI, 2, .inl pa)), (zb, .inl (cI, 2050, .inl bg)), (zp, .inl (cI, 2, .inl pt))]) (w1 := [(ma, .inr (6, mo_ th zk zp za zb zx zy sn zf zt zw zm zh x0 y0 dx dy zz cu zo zu)), (zz, .inl (cJ, 192, .inr (.inl za2))), (zx, .inl (cI, 4096, .inl xs)), (zy, .inl (cI, 4096, .inl ys))]) hP hD [3, 4, 5, 6] [0, 1, 2] rfl rfl (by decide) (by decide) hk1 hFc hP1 hD1
        clear hPc hDc hFc hP1 hD1 hK1 hk1 hz1 hvm ht
        generalize H1 = H at hP hS ⊢
        have hP : va_P g vwCl [(za, .inl (cI, 2, .inl pa)), (zb, .inl (cI, 2050, .inl bg)), (zp, .inl (cI, 2, .inl pt)), (ma, .inr (6, mo_ th zk zp za zb zx zy sn zf zt zw zm zh x0 y0 dx dy zz cu zo zu)), (zz, .inl (cJ, 192, .inr (.inl za2))), (zx, .inl (cI, 4096, .inl xs)), (zy, .inl (cI, 4096, .inl ys))] H := hP
        have hD : va_D A [(za, .inl (cI, 2, .inl pa)), (zb, .inl (cI, 2050, .inl bg)), (zp, .inl (cI, 2, .inl pt)), (ma, .inr (6, mo_ th zk zp za zb zx zy sn zf zt zw zm zh x0 y0 dx dy zz cu zo zu)), (zz, .inl (cJ, 192, .inr (.inl za2))), (zx, .inl (cI, 4096, .inl xs)), (zy, .inl (cI, 4096, .inl ys))] := hD
        obtain ⟨eza2, qza2⟩ := wza2
        subst eza2
        refine jnV (α := Int32) (ls := ls) (pc2 := 68) (fun v => v = (if isp_ xs ys x0 y0 dx dy nm dn (2048 * sh + pe_ (SN sh) (PA sh) (PT sh) k - 1) = 0 then (0 : Int32) else 1)) (fun v => [.int v, .int (if isp_ xs ys x0 y0 dx dy nm dn (2048 * sh + SN sh k) = 0 then (0 : Int32) else 1), .int (nI (en_ (isp_ xs ys x0 y0 dx dy nm dn) (SN sh) (PA sh) (PT sh) (2048 * sh) k))]) (fun J => ?_) (fun v hv => ?_)
        · refine lv_if_eq (tgt := 67) hx hb dX6_isEnd_60 (by decide) (fun cj => ?_) (fun cj => ?_)
          · refine lv_iconst (v := 0) hx hb dX6_isEnd_67 (by decide) ?_
            exact J _ (by rw [if_pos cj])
          · refine lv_iconst (v := 1) hx hb dX6_isEnd_63 (by decide) ?_
            refine lv_goto (tgt := 68) hx hb dX6_isEnd_64 (by decide) ?_
            exact J _ (by rw [if_neg cj])
        · subst hv
          refine lv_iadd hx hb dX6_isEnd_68 ?_
          refine lv_iadd hx hb dX6_isEnd_69 ?_
          refine tpi_ (y := (nI (en_ (isp_ xs ys x0 y0 dx dy nm dn) (SN sh) (PA sh) (PT sh) (2048 * sh) (k + 1)))) (by rw [en_, if_pos e4]; exact ew_i) ?_
          refine lv_istore_n (lv' := [(2, .int (nI (en_ (isp_ xs ys x0 y0 dx dy nm dn) (SN sh) (PA sh) (PT sh) (2048 * sh) (k + 1)))), (5, .int (nI (2048 * sh + pe_ (SN sh) (PA sh) (PT sh) k))), (4, .int (nI (2048 * sh + SN sh k))), (3, .int (nI k)), (0, .ref ma), (1, .int (nI sh))]) hx hb dX6_isEnd_70 rfl hl (by decide) rfl (fun ls hl => ?_)
          refine lv_iinc (v := (nI (k + 1))) (lv' := [(3, .int (nI (k + 1))), (2, .int (nI (en_ (isp_ xs ys x0 y0 dx dy nm dn) (SN sh) (PA sh) (PT sh) (2048 * sh) (k + 1)))), (5, .int (nI (2048 * sh + pe_ (SN sh) (PA sh) (PT sh) k))), (4, .int (nI (2048 * sh + SN sh k))), (0, .ref ma), (1, .int (nI sh))]) hx hb dX6_isEnd_71 hl (k := 3) rfl (nI_1 k) (by decide) rfl (fun ls hl => ?_)
          refine lv_goto (tgt := 4) hx hb dX6_isEnd_74 (by decide) ?_
          exact ih (k + 1, za2) (by show PA sh - (k + 1) < PA sh - k; omega) H locs ls ⟨⟨e1, qza2⟩, (hP.sub [3, 4, 5, 6, 0, 1, 2] rfl), (hD.sub [3, 4, 5, 6, 0, 1, 2] (by decide) rfl), hS, (lv_sub hl [0, 1, 4, 5] rfl)⟩

theorem ikX6_where_X6 : ∀ w ∈ wsX60, w ∈ wsX6_where := by decide +kernel
set_option maxHeartbeats 1000000 in
set_option maxRecDepth 100000 in
theorem kX6_where (l : Launch) (g : va_G) (cI cJ cZ : ClassId) (sz : Nat) (ma : Nat) (th : Int32) (x0 : Int64) (y0 : Int64) (dx : Int64) (dy : Int64) (cu : Int32) (zk : Nat) (zp : Nat) (za : Nat) (zb : Nat) (zx : Nat) (zy : Nat) (zf : Nat) (zt : Nat) (zw : Nat) (zm : Nat) (zh : Nat) (zz : Nat) (zo : Nat) (zu : Nat) (kn : Nat → Int32) (pt : Nat → Int32) (pa : Nat → Int32) (bg : Nat → Int32) (xs : Nat → Int32) (ys : Nat → Int32) (fr : Nat → Int32) (to1 : Nat → Int32) (wh : Nat → Int32) (z : Nat → Int64) (nm : Int) (dn : Int) (PT : Nat → Nat) (PA : Nat → Nat) (SN : Nat → Nat → Nat) (ms : List (Nat × Nat × Nat)) (sh : Nat) (hq : gq_ z nm dn) (hs : sh < 2) (hl1 : ms.length ≤ 4096) (hm3 : ml3_ fr to1 wh ms) (hmb : ∀ q ∈ ms, q.1 < 4096 ∧ q.2.1 < 4096 ∧ q.2.2 < 2) (hst : mst_ pt pa bg PT PA SN) : Met l yX6_where wsX6_where ({ frames := 6, cells := 0, slots := 0, locals := 147 }) (pc_ g cI cJ cZ [.ref ma, .int (nI sh)] [(ma, .inr (6, mo_ th zk zp za zb zx zy (nI ms.length) zf zt zw zm zh x0 y0 dx dy zz cu zo zu)), (zk, .inl (cI, 2, .inl kn)), (zp, .inl (cI, 2, .inl pt)), (za, .inl (cI, 2, .inl pa)), (zb, .inl (cI, 2050, .inl bg)), (zx, .inl (cI, 4096, .inl xs)), (zy, .inl (cI, 4096, .inl ys)), (zf, .inl (cI, 4096, .inl fr)), (zt, .inl (cI, 4096, .inl to1)), (zw, .inl (cI, 4096, .inl wh)), (zz, .inl (cJ, 192, .inr (.inl z)))] sz) (va_Qi (fun (r : Int32) (z2 : (Nat → Int64)) => r = whr_ (kn sh) xs ys x0 y0 dx dy nm dn ms sh (PA sh) (PT sh) (SN sh) ∧ gq_ z2 nm dn) (fun (z2 : (Nat → Int64)) t => wd_ g cI cJ cZ (va_A [(ma, .inr (6, mo_ th zk zp za zb zx zy (nI ms.length) zf zt zw zm zh x0 y0 dx dy zz cu zo zu)), (zk, .inl (cI, 2, .inl kn)), (zp, .inl (cI, 2, .inl pt)), (za, .inl (cI, 2, .inl pa)), (zb, .inl (cI, 2050, .inl bg)), (zx, .inl (cI, 4096, .inl xs)), (zy, .inl (cI, 4096, .inl ys)), (zf, .inl (cI, 4096, .inl fr)), (zt, .inl (cI, 4096, .inl to1)), (zw, .inl (cI, 4096, .inl wh)), (zz, .inl (cJ, 192, .inr (.inl z)))] sz) [(ma, .inr (6, mo_ th zk zp za zb zx zy (nI ms.length) zf zt zw zm zh x0 y0 dx dy zz cu zo zu)), (zk, .inl (cI, 2, .inl kn)), (zp, .inl (cI, 2, .inl pt)), (za, .inl (cI, 2, .inl pa)), (zb, .inl (cI, 2050, .inl bg)), (zx, .inl (cI, 4096, .inl xs)), (zy, .inl (cI, 4096, .inl ys)), (zf, .inl (cI, 4096, .inl fr)), (zt, .inl (cI, 4096, .inl to1)), (zw, .inl (cI, 4096, .inl wh)), (zz, .inl (cJ, 192, .inr (.inl z2)))] t) (va_A [(ma, .inr (6, mo_ th zk zp za zb zx zy (nI ms.length) zf zt zw zm zh x0 y0 dx dy zz cu zo zu)), (zk, .inl (cI, 2, .inl kn)), (zp, .inl (cI, 2, .inl pt)), (za, .inl (cI, 2, .inl pa)), (zb, .inl (cI, 2050, .inl bg)), (zx, .inl (cI, 4096, .inl xs)), (zy, .inl (cI, 4096, .inl ys)), (zf, .inl (cI, 4096, .inl fr)), (zt, .inl (cI, 4096, .inl to1)), (zw, .inl (cI, 4096, .inl wh)), (zz, .inl (cJ, 192, .inr (.inl z)))] sz)) (0) (0) (va_A [(ma, .inr (6, mo_ th zk zp za zb zx zy (nI ms.length) zf zt zw zm zh x0 y0 dx dy zz cu zo zu)), (zk, .inl (cI, 2, .inl kn)), (zp, .inl (cI, 2, .inl pt)), (za, .inl (cI, 2, .inl pa)), (zb, .inl (cI, 2050, .inl bg)), (zx, .inl (cI, 4096, .inl xs)), (zy, .inl (cI, 4096, .inl ys)), (zf, .inl (cI, 4096, .inl fr)), (zt, .inl (cI, 4096, .inl to1)), (zw, .inl (cI, 4096, .inl wh)), (zz, .inl (cJ, 192, .inr (.inl z)))] sz) := by
  refine Met.ofW (cc := cX6_where) (maxL := 3) (ret := (some .int)) (by decide) rfl ?_
  intro p e s m args below meth c s₁ B hml hv
  obtain ⟨rfl, hsz, hP, hK, hD0⟩ := hv
  have hx := B.exec
  have hb := B.bytes
  have hr := B.returns
  have hts := atoms_spec (ws := wsX6_where) B.pre
  have hown : s.vm.findClass RX6 = some m.cls := findClass_of_methodNamed B.named
  have hlocks := B.notSynchronized
  subst hsz
  have hD := hD0.self (sz := s.heap.size)
  generalize hAe : va_A [(ma, .inr (6, mo_ th zk zp za zb zx zy (nI ms.length) zf zt zw zm zh x0 y0 dx dy zz cu zo zu)), (zk, .inl (cI, 2, .inl kn)), (zp, .inl (cI, 2, .inl pt)), (za, .inl (cI, 2, .inl pa)), (zb, .inl (cI, 2050, .inl bg)), (zx, .inl (cI, 4096, .inl xs)), (zy, .inl (cI, 4096, .inl ys)), (zf, .inl (cI, 4096, .inl fr)), (zt, .inl (cI, 4096, .inl to1)), (zw, .inl (cI, 4096, .inl wh)), (zz, .inl (cJ, 192, .inr (.inl z)))] s.heap.size = A at hD ⊢
  have hA : ∀ q : Nat, s.heap.size ≤ q → A q := fun q h => by rw [← hAe]; exact Or.inr h
  have hS : va_S A s.heap s.heap [] := va_S.rf
  have hP : va_P g vwCl [(ma, .inr (6, mo_ th zk zp za zb zx zy (nI ms.length) zf zt zw zm zh x0 y0 dx dy zz cu zo zu)), (zk, .inl (cI, 2, .inl kn)), (zp, .inl (cI, 2, .inl pt)), (za, .inl (cI, 2, .inl pa)), (zb, .inl (cI, 2050, .inl bg)), (zx, .inl (cI, 4096, .inl xs)), (zy, .inl (cI, 4096, .inl ys)), (zf, .inl (cI, 4096, .inl fr)), (zt, .inl (cI, 4096, .inl to1)), (zw, .inl (cI, 4096, .inl wh)), (zz, .inl (cJ, 192, .inr (.inl z)))] s.heap := hP
  have hl := lv_entry ([.ref ma, .int (nI sh)]) (n := 3) (Nat.le_of_ble_eq_true rfl)
  rw [lg_entry_eq]
  generalize (lg_sl ([.ref ma, .int (nI sh)]) ++ List.replicate (3 - (lg_sl ([.ref ma, .int (nI sh)])).length) Slot.unset).toArray = ls at hl ⊢
  have hl : lv_has ls 3 [(0, .ref ma), (1, .int (nI sh))] := hl
  have hH0 : s.heap = s.heap := rfl
  have hiX6 := ikX6_where_X6
  obtain ⟨s1, s2, s3, s4, s5⟩ := id (hst sh hs)
  refine lv_aload_n hx hb dX6_where_0 rfl (lv_at hl 0 rfl) ?_
  refine va_get (D := g) (ci := 6) (v := .ref zk) (C := RX6) (T := TX6) (N := 21) hx hb hts hiX6 hown hK hP 0 rfl rfl 1 (by decide) (hts (.fieldLink RX6 7 "ShapeRelatorModel" "kinds" "[I") (List.mem_of_getElem? (i := 1) rfl)) (fun _ h9 => h9) rfl dX6_where_1 ?_
  refine lv_iload_n hx hb dX6_where_4 rfl (lv_at hl 1 rfl) ?_
  refine va_iald (D := g) hx hb hK hP 1 0 rfl rfl (vp_in_nI (show sh < 2 by omega) (by omega)) dX6_where_5 ?_
  refine tpi_ (y := (kn sh)) (by rw [nI_clamp (by omega)]) ?_
  refine lv_iconst (v := 1) hx hb dX6_where_6 (by decide) ?_
  refine lv_icmp_ne (tgt := 24) hx hb dX6_where_7 (by decide) (fun k1 => ?_) (fun k1 => ?_)
  · have b1 : ms.countP (hF_ xs ys x0 y0 dx dy nm dn sh) ≤ ms.length := List.countP_le_length
    have b2 : ms.countP (cF_ xs ys x0 y0 dx dy nm dn sh) ≤ ms.length := List.countP_le_length
    refine lv_aload_n hx hb dX6_where_24 rfl (lv_at hl 0 rfl) ?_
    refine lv_iload_n hx hb dX6_where_25 rfl (lv_at hl 1 rfl) ?_
    have hPc := hP.sub (ws' := [(ma, .inr (6, mo_ th zk zp za zb zx zy (nI ms.length) zf zt zw zm zh x0 y0 dx dy zz cu zo zu)), (zz, .inl (cJ, 192, .inr (.inl z))), (zx, .inl (cI, 4096, .inl xs)), (zy, .inl (cI, 4096, .inl ys)), (zf, .inl (cI, 4096, .inl fr)), (zt, .inl (cI, 4096, .inl to1)), (zw, .inl (cI, 4096, .inl wh))]) [0, 10, 5, 6, 7, 8, 9] rfl
    have hDc := hD.sub (ws' := [(ma, .inr (6, mo_ th zk zp za zb zx zy (nI ms.length) zf zt zw zm zh x0 y0 dx dy zz cu zo zu)), (zz, .inl (cJ, 192, .inr (.inl z))), (zx, .inl (cI, 4096, .inl xs)), (zy, .inl (cI, 4096, .inl ys)), (zf, .inl (cI, 4096, .inl fr)), (zt, .inl (cI, 4096, .inl to1)), (zw, .inl (cI, 4096, .inl wh))]) [0, 10, 5, 6, 7, 8, 9] (by decide) rfl
    have hFc := va_free (wc := [(ma, .inr (6, mo_ th zk zp za zb zx zy (nI ms.length) zf zt zw zm zh x0 y0 dx dy zz cu zo zu)), (zz, .inl (cJ, 192, .inr (.inl z))), (zx, .inl (cI, 4096, .inl xs)), (zy, .inl (cI, 4096, .inl ys)), (zf, .inl (cI, 4096, .inl fr)), (zt, .inl (cI, 4096, .inl to1)), (zw, .inl (cI, 4096, .inl wh))]) hD hS hA [0, 10, 5, 6, 7, 8, 9] rfl
    refine va_calli (va_runV (As := [.int (nI sh)]) (rest := []) ⟨hx, hb, hml, hown, hts⟩ (kX6_having l g cI cJ cZ s.heap.size ma th x0 y0 dx dy cu zk zp za zb zx zy zf zt zw zm zh zz zo zu z xs ys fr to1 wh nm dn ms sh hq hs hl1 hm3 hmb) (cwV 1 hts gX6_where_X6_having rfl rfl rfl (by decide +kernel) ⟨Nat.le_of_ble_eq_true rfl, Nat.le_of_ble_eq_true rfl⟩) (pv_ hK hPc hDc (va_recv hK hPc (ci := 6) (q0 := 0) rfl rfl)) rfl rfl hl.1 rfl (lv_room (Nat.le_of_ble_eq_true rfl)) dX6_where_26 ⟨Nat.zero_le _, Nat.zero_le _⟩) hS (fun q _ h => hFc q h) hFc (fun r1 u t H1 locs ht hvm wza1 hB hz1 hk1 hS => ?_)
    obtain ⟨za1, rfl⟩ : ∃ z, z = u := ⟨_, rfl⟩
    obtain ⟨hP1, hK1, hD1⟩ := hB
    rw [ht] at hP1
    obtain ⟨hP, hD⟩ := va_join (wr := [(zk, .inl (cI, 2, .inl kn)), (zp, .inl (cI, 2, .inl pt)), (za, .inl (cI, 2, .inl pa)), (zb, .inl (cI, 2050, .inl bg))]) (w1 := [(ma, .inr (6, mo_ th zk zp za zb zx zy (nI ms.length) zf zt zw zm zh x0 y0 dx dy zz cu zo zu)), (zz, .inl (cJ, 192, .inr (.inl za1))), (zx, .inl (cI, 4096, .inl xs)), (zy, .inl (cI, 4096, .inl ys)), (zf, .inl (cI, 4096, .inl fr)), (zt, .inl (cI, 4096, .inl to1)), (zw, .inl (cI, 4096, .inl wh))]) hP hD [0, 10, 5, 6, 7, 8, 9] [1, 2, 3, 4] rfl rfl (by decide) (by decide) hk1 hFc hP1 hD1
    clear hPc hDc hFc hP1 hD1 hK1 hk1 hz1 hvm ht
    generalize H1 = H at hP hS ⊢
    have hP : va_P g vwCl [(zk, .inl (cI, 2, .inl kn)), (zp, .inl (cI, 2, .inl pt)), (za, .inl (cI, 2, .inl pa)), (zb, .inl (cI, 2050, .inl bg)), (ma, .inr (6, mo_ th zk zp za zb zx zy (nI ms.length) zf zt zw zm zh x0 y0 dx dy zz cu zo zu)), (zz, .inl (cJ, 192, .inr (.inl za1))), (zx, .inl (cI, 4096, .inl xs)), (zy, .inl (cI, 4096, .inl ys)), (zf, .inl (cI, 4096, .inl fr)), (zt, .inl (cI, 4096, .inl to1)), (zw, .inl (cI, 4096, .inl wh))] H := hP
    have hD : va_D A [(zk, .inl (cI, 2, .inl kn)), (zp, .inl (cI, 2, .inl pt)), (za, .inl (cI, 2, .inl pa)), (zb, .inl (cI, 2050, .inl bg)), (ma, .inr (6, mo_ th zk zp za zb zx zy (nI ms.length) zf zt zw zm zh x0 y0 dx dy zz cu zo zu)), (zz, .inl (cJ, 192, .inr (.inl za1))), (zx, .inl (cI, 4096, .inl xs)), (zy, .inl (cI, 4096, .inl ys)), (zf, .inl (cI, 4096, .inl fr)), (zt, .inl (cI, 4096, .inl to1)), (zw, .inl (cI, 4096, .inl wh))] := hD
    obtain ⟨eza1, qza1⟩ := wza1
    subst eza1
    refine jnV (α := Int32) (ls := ls) (pc2 := 37) (fun v => v = bo_ (0 < ms.countP (hF_ xs ys x0 y0 dx dy nm dn sh))) (fun v => [.int v]) (fun J => ?_) (fun v hv => ?_)
    · refine lv_if_le (tgt := 36) hx hb dX6_where_29 (by decide) (fun cj => ?_) (fun cj => ?_)
      · refine lv_iconst (v := 0) hx hb dX6_where_36 (by decide) ?_
        exact J _ (bo_f (fun h => nI_nle h (by omega) cj))
      · refine lv_iconst (v := 1) hx hb dX6_where_32 (by decide) ?_
        refine lv_goto (tgt := 37) hx hb dX6_where_33 (by decide) ?_
        exact J _ (bo_t (Nat.pos_of_ne_zero (fun h => cj (by rw [h]; decide))))
    · subst hv
      refine lv_istore_n (lv' := [(2, .int (bo_ (0 < ms.countP (hF_ xs ys x0 y0 dx dy nm dn sh)))), (0, .ref ma), (1, .int (nI sh))]) hx hb dX6_where_37 rfl hl (by decide) rfl (fun ls hl => ?_)
      refine lv_aload_n hx hb dX6_where_38 rfl (lv_at hl 1 rfl) ?_
      refine va_get (D := g) (ci := 6) (v := .ref zk) (C := RX6) (T := TX6) (N := 21) hx hb hts hiX6 hown hK hP 4 rfl rfl 1 (by decide) (hts (.fieldLink RX6 7 "ShapeRelatorModel" "kinds" "[I") (List.mem_of_getElem? (i := 1) rfl)) (fun _ h9 => h9) rfl dX6_where_39 ?_
      refine lv_iload_n hx hb dX6_where_42 rfl (lv_at hl 2 rfl) ?_
      refine va_iald (D := g) hx hb hK hP 0 0 rfl rfl (vp_in_nI (show sh < 2 by omega) (by omega)) dX6_where_43 ?_
      refine tpi_ (y := (kn sh)) (by rw [nI_clamp (by omega)]) ?_
      refine lv_iconst (v := 2) hx hb dX6_where_44 (by decide) ?_
      refine lv_icmp_ne (tgt := 70) hx hb dX6_where_45 (by decide) (fun k2 => ?_) (fun k2 => ?_)
      · refine lv_iload_n hx hb dX6_where_70 rfl (lv_at hl 0 rfl) ?_
        refine lv_if_eq (tgt := 78) hx hb dX6_where_71 (by decide) (fun c3 => ?_) (fun c3 => ?_)
        · have h0 : ¬ 0 < ms.countP (hF_ xs ys x0 y0 dx dy nm dn sh) := fun h => absurd c3 (by unfold bo_; rw [if_pos h]; decide)
          refine lv_aload_n hx hb dX6_where_78 rfl (lv_at hl 1 rfl) ?_
          refine lv_iload_n hx hb dX6_where_79 rfl (lv_at hl 2 rfl) ?_
          have hPc := hP.sub (ws' := [(ma, .inr (6, mo_ th zk zp za zb zx zy (nI ms.length) zf zt zw zm zh x0 y0 dx dy zz cu zo zu)), (zz, .inl (cJ, 192, .inr (.inl za1))), (zx, .inl (cI, 4096, .inl xs)), (zy, .inl (cI, 4096, .inl ys)), (zf, .inl (cI, 4096, .inl fr)), (zt, .inl (cI, 4096, .inl to1)), (zw, .inl (cI, 4096, .inl wh))]) [4, 5, 6, 7, 8, 9, 10] rfl
          have hDc := hD.sub (ws' := [(ma, .inr (6, mo_ th zk zp za zb zx zy (nI ms.length) zf zt zw zm zh x0 y0 dx dy zz cu zo zu)), (zz, .inl (cJ, 192, .inr (.inl za1))), (zx, .inl (cI, 4096, .inl xs)), (zy, .inl (cI, 4096, .inl ys)), (zf, .inl (cI, 4096, .inl fr)), (zt, .inl (cI, 4096, .inl to1)), (zw, .inl (cI, 4096, .inl wh))]) [4, 5, 6, 7, 8, 9, 10] (by decide) rfl
          have hFc := va_free (wc := [(ma, .inr (6, mo_ th zk zp za zb zx zy (nI ms.length) zf zt zw zm zh x0 y0 dx dy zz cu zo zu)), (zz, .inl (cJ, 192, .inr (.inl za1))), (zx, .inl (cI, 4096, .inl xs)), (zy, .inl (cI, 4096, .inl ys)), (zf, .inl (cI, 4096, .inl fr)), (zt, .inl (cI, 4096, .inl to1)), (zw, .inl (cI, 4096, .inl wh))]) hD hS hA [4, 5, 6, 7, 8, 9, 10] rfl
          refine va_calli (va_runV (As := [.int (nI sh)]) (rest := []) ⟨hx, hb, hml, hown, hts⟩ (kX6_crossed l g cI cJ cZ H.size ma th x0 y0 dx dy cu zk zp za zb zx zy zf zt zw zm zh zz zo zu za1 xs ys fr to1 wh nm dn ms sh qza1 hs hl1 hm3 hmb) (cwV 1 hts gX6_where_X6_crossed rfl rfl rfl (by decide +kernel) ⟨Nat.le_of_ble_eq_true rfl, Nat.le_of_ble_eq_true rfl⟩) (pv_ hK hPc hDc (va_recv hK hPc (ci := 6) (q0 := 0) rfl rfl)) rfl rfl hl.1 rfl (lv_room (Nat.le_of_ble_eq_true rfl)) dX6_where_80 ⟨Nat.zero_le _, Nat.zero_le _⟩) hS (fun q _ h => hFc q h) hFc (fun r2 u t H1 locs ht hvm wza2 hB hz1 hk1 hS => ?_)
          obtain ⟨za2, rfl⟩ : ∃ z, z = u := ⟨_, rfl⟩
          obtain ⟨hP1, hK1, hD1⟩ := hB
          rw [ht] at hP1
          obtain ⟨hP, hD⟩ := va_join (wr := [(zk, .inl (cI, 2, .inl kn)), (zp, .inl (cI, 2, .inl pt)), (za, .inl (cI, 2, .inl pa)), (zb, .inl (cI, 2050, .inl bg))]) (w1 := [(ma, .inr (6, mo_ th zk zp za zb zx zy (nI ms.length) zf zt zw zm zh x0 y0 dx dy zz cu zo zu)), (zz, .inl (cJ, 192, .inr (.inl za2))), (zx, .inl (cI, 4096, .inl xs)), (zy, .inl (cI, 4096, .inl ys)), (zf, .inl (cI, 4096, .inl fr)), (zt, .inl (cI, 4096, .inl to1)), (zw, .inl (cI, 4096, .inl wh))]) hP hD [4, 5, 6, 7, 8, 9, 10] [0, 1, 2, 3] rfl rfl (by decide) (by decide) hk1 hFc hP1 hD1
          clear hPc hDc hFc hP1 hD1 hK1 hk1 hz1 hvm ht
          generalize H1 = H at hP hS ⊢
          have hP : va_P g vwCl [(zk, .inl (cI, 2, .inl kn)), (zp, .inl (cI, 2, .inl pt)), (za, .inl (cI, 2, .inl pa)), (zb, .inl (cI, 2050, .inl bg)), (ma, .inr (6, mo_ th zk zp za zb zx zy (nI ms.length) zf zt zw zm zh x0 y0 dx dy zz cu zo zu)), (zz, .inl (cJ, 192, .inr (.inl za2))), (zx, .inl (cI, 4096, .inl xs)), (zy, .inl (cI, 4096, .inl ys)), (zf, .inl (cI, 4096, .inl fr)), (zt, .inl (cI, 4096, .inl to1)), (zw, .inl (cI, 4096, .inl wh))] H := hP
          have hD : va_D A [(zk, .inl (cI, 2, .inl kn)), (zp, .inl (cI, 2, .inl pt)), (za, .inl (cI, 2, .inl pa)), (zb, .inl (cI, 2050, .inl bg)), (ma, .inr (6, mo_ th zk zp za zb zx zy (nI ms.length) zf zt zw zm zh x0 y0 dx dy zz cu zo zu)), (zz, .inl (cJ, 192, .inr (.inl za2))), (zx, .inl (cI, 4096, .inl xs)), (zy, .inl (cI, 4096, .inl ys)), (zf, .inl (cI, 4096, .inl fr)), (zt, .inl (cI, 4096, .inl to1)), (zw, .inl (cI, 4096, .inl wh))] := hD
          obtain ⟨eza2, qza2⟩ := wza2
          subst eza2
          refine lv_iconst (v := 1) hx hb dX6_where_83 (by decide) ?_
          refine lv_icmp_ne (tgt := 91) hx hb dX6_where_84 (by decide) (fun c4 => ?_) (fun c4 => ?_)
          · refine lv_iconst (v := 2) hx hb dX6_where_91 (by decide) ?_
            have hP9 := hP.sub (ws' := [(ma, .inr (6, mo_ th zk zp za zb zx zy (nI ms.length) zf zt zw zm zh x0 y0 dx dy zz cu zo zu)), (zk, .inl (cI, 2, .inl kn)), (zp, .inl (cI, 2, .inl pt)), (za, .inl (cI, 2, .inl pa)), (zb, .inl (cI, 2050, .inl bg)), (zx, .inl (cI, 4096, .inl xs)), (zy, .inl (cI, 4096, .inl ys)), (zf, .inl (cI, 4096, .inl fr)), (zt, .inl (cI, 4096, .inl to1)), (zw, .inl (cI, 4096, .inl wh)), (zz, .inl (cJ, 192, .inr (.inl za2)))]) [4, 0, 1, 2, 3, 6, 7, 8, 9, 10, 5] rfl
            have hD9 := hD.sub (ws' := [(ma, .inr (6, mo_ th zk zp za zb zx zy (nI ms.length) zf zt zw zm zh x0 y0 dx dy zz cu zo zu)), (zk, .inl (cI, 2, .inl kn)), (zp, .inl (cI, 2, .inl pt)), (za, .inl (cI, 2, .inl pa)), (zb, .inl (cI, 2050, .inl bg)), (zx, .inl (cI, 4096, .inl xs)), (zy, .inl (cI, 4096, .inl ys)), (zf, .inl (cI, 4096, .inl fr)), (zt, .inl (cI, 4096, .inl to1)), (zw, .inl (cI, 4096, .inl wh)), (zz, .inl (cJ, 192, .inr (.inl za2)))]) [4, 0, 1, 2, 3, 6, 7, 8, 9, 10, 5] (by decide) rfl
            exact W.iret (v := 2) hx hb hr (fun t ht hW => ⟨⟨2, za2, rfl, ⟨by unfold whr_; rw [if_neg k1, if_neg k2, if_neg h0, if_neg (fun h => c4 (by rw [h]; rfl))], qza2⟩, by rw [ht]; exact hP9, va_K.moved hW.alike hK, hD9⟩, hS.F ht⟩) hS.2.2 dX6_where_92
          · refine lv_iconst (v := 0) hx hb dX6_where_87 (by decide) ?_
            refine lv_goto (tgt := 92) hx hb dX6_where_88 (by decide) ?_
            have hP9 := hP.sub (ws' := [(ma, .inr (6, mo_ th zk zp za zb zx zy (nI ms.length) zf zt zw zm zh x0 y0 dx dy zz cu zo zu)), (zk, .inl (cI, 2, .inl kn)), (zp, .inl (cI, 2, .inl pt)), (za, .inl (cI, 2, .inl pa)), (zb, .inl (cI, 2050, .inl bg)), (zx, .inl (cI, 4096, .inl xs)), (zy, .inl (cI, 4096, .inl ys)), (zf, .inl (cI, 4096, .inl fr)), (zt, .inl (cI, 4096, .inl to1)), (zw, .inl (cI, 4096, .inl wh)), (zz, .inl (cJ, 192, .inr (.inl za2)))]) [4, 0, 1, 2, 3, 6, 7, 8, 9, 10, 5] rfl
            have hD9 := hD.sub (ws' := [(ma, .inr (6, mo_ th zk zp za zb zx zy (nI ms.length) zf zt zw zm zh x0 y0 dx dy zz cu zo zu)), (zk, .inl (cI, 2, .inl kn)), (zp, .inl (cI, 2, .inl pt)), (za, .inl (cI, 2, .inl pa)), (zb, .inl (cI, 2050, .inl bg)), (zx, .inl (cI, 4096, .inl xs)), (zy, .inl (cI, 4096, .inl ys)), (zf, .inl (cI, 4096, .inl fr)), (zt, .inl (cI, 4096, .inl to1)), (zw, .inl (cI, 4096, .inl wh)), (zz, .inl (cJ, 192, .inr (.inl za2)))]) [4, 0, 1, 2, 3, 6, 7, 8, 9, 10, 5] (by decide) rfl
            exact W.iret (v := 0) hx hb hr (fun t ht hW => ⟨⟨0, za2, rfl, ⟨by unfold whr_; rw [if_neg k1, if_neg k2, if_neg h0, if_pos ((nI_eq (b := 1) (by omega) (by decide)).mp c4)], qza2⟩, by rw [ht]; exact hP9, va_K.moved hW.alike hK, hD9⟩, hS.F ht⟩) hS.2.2 dX6_where_92
        · have h0 : 0 < ms.countP (hF_ xs ys x0 y0 dx dy nm dn sh) := by rcases Nat.lt_or_ge 0 (ms.countP (hF_ xs ys x0 y0 dx dy nm dn sh)) with q | q; (· exact q); exact absurd (by unfold bo_; rw [if_neg (by omega)]) c3
          refine lv_iconst (v := 1) hx hb dX6_where_74 (by decide) ?_
          refine lv_goto (tgt := 92) hx hb dX6_where_75 (by decide) ?_
          have hP9 := hP.sub (ws' := [(ma, .inr (6, mo_ th zk zp za zb zx zy (nI ms.length) zf zt zw zm zh x0 y0 dx dy zz cu zo zu)), (zk, .inl (cI, 2, .inl kn)), (zp, .inl (cI, 2, .inl pt)), (za, .inl (cI, 2, .inl pa)), (zb, .inl (cI, 2050, .inl bg)), (zx, .inl (cI, 4096, .inl xs)), (zy, .inl (cI, 4096, .inl ys)), (zf, .inl (cI, 4096, .inl fr)), (zt, .inl (cI, 4096, .inl to1)), (zw, .inl (cI, 4096, .inl wh)), (zz, .inl (cJ, 192, .inr (.inl za1)))]) [4, 0, 1, 2, 3, 6, 7, 8, 9, 10, 5] rfl
          have hD9 := hD.sub (ws' := [(ma, .inr (6, mo_ th zk zp za zb zx zy (nI ms.length) zf zt zw zm zh x0 y0 dx dy zz cu zo zu)), (zk, .inl (cI, 2, .inl kn)), (zp, .inl (cI, 2, .inl pt)), (za, .inl (cI, 2, .inl pa)), (zb, .inl (cI, 2050, .inl bg)), (zx, .inl (cI, 4096, .inl xs)), (zy, .inl (cI, 4096, .inl ys)), (zf, .inl (cI, 4096, .inl fr)), (zt, .inl (cI, 4096, .inl to1)), (zw, .inl (cI, 4096, .inl wh)), (zz, .inl (cJ, 192, .inr (.inl za1)))]) [4, 0, 1, 2, 3, 6, 7, 8, 9, 10, 5] (by decide) rfl
          exact W.iret (v := 1) hx hb hr (fun t ht hW => ⟨⟨1, za1, rfl, ⟨by unfold whr_; rw [if_neg k1, if_neg k2, if_pos h0], qza1⟩, by rw [ht]; exact hP9, va_K.moved hW.alike hK, hD9⟩, hS.F ht⟩) hS.2.2 dX6_where_92
      · refine lv_aload_n hx hb dX6_where_48 rfl (lv_at hl 1 rfl) ?_
        refine lv_iload_n hx hb dX6_where_49 rfl (lv_at hl 2 rfl) ?_
        have hPc := hP.sub (ws' := [(ma, .inr (6, mo_ th zk zp za zb zx zy (nI ms.length) zf zt zw zm zh x0 y0 dx dy zz cu zo zu)), (zz, .inl (cJ, 192, .inr (.inl za1))), (zx, .inl (cI, 4096, .inl xs)), (zy, .inl (cI, 4096, .inl ys)), (za, .inl (cI, 2, .inl pa)), (zb, .inl (cI, 2050, .inl bg)), (zp, .inl (cI, 2, .inl pt))]) [4, 5, 6, 7, 2, 3, 1] rfl
        have hDc := hD.sub (ws' := [(ma, .inr (6, mo_ th zk zp za zb zx zy (nI ms.length) zf zt zw zm zh x0 y0 dx dy zz cu zo zu)), (zz, .inl (cJ, 192, .inr (.inl za1))), (zx, .inl (cI, 4096, .inl xs)), (zy, .inl (cI, 4096, .inl ys)), (za, .inl (cI, 2, .inl pa)), (zb, .inl (cI, 2050, .inl bg)), (zp, .inl (cI, 2, .inl pt))]) [4, 5, 6, 7, 2, 3, 1] (by decide) rfl
        have hFc := va_free (wc := [(ma, .inr (6, mo_ th zk zp za zb zx zy (nI ms.length) zf zt zw zm zh x0 y0 dx dy zz cu zo zu)), (zz, .inl (cJ, 192, .inr (.inl za1))), (zx, .inl (cI, 4096, .inl xs)), (zy, .inl (cI, 4096, .inl ys)), (za, .inl (cI, 2, .inl pa)), (zb, .inl (cI, 2050, .inl bg)), (zp, .inl (cI, 2, .inl pt))]) hD hS hA [4, 5, 6, 7, 2, 3, 1] rfl
        refine va_calli (va_runV (As := [.int (nI sh)]) (rest := []) ⟨hx, hb, hml, hown, hts⟩ (kX6_isEnd l g cI cJ cZ H.size ma th (nI ms.length) x0 y0 dx dy cu zk zp za zb zx zy zf zt zw zm zh zz zo zu za1 xs ys pa bg pt nm dn PT PA SN sh qza1 hs hst) (cwV 1 hts gX6_where_X6_isEnd rfl rfl rfl (by decide +kernel) ⟨Nat.le_of_ble_eq_true rfl, Nat.le_of_ble_eq_true rfl⟩) (pv_ hK hPc hDc (va_recv hK hPc (ci := 6) (q0 := 0) rfl rfl)) rfl rfl hl.1 rfl (lv_room (Nat.le_of_ble_eq_true rfl)) dX6_where_50 ⟨Nat.zero_le _, Nat.zero_le _⟩) hS (fun q _ h => hFc q h) hFc (fun r2 u t H1 locs ht hvm wza2 hB hz1 hk1 hS => ?_)
        obtain ⟨za2, rfl⟩ : ∃ z, z = u := ⟨_, rfl⟩
        obtain ⟨hP1, hK1, hD1⟩ := hB
        rw [ht] at hP1
        obtain ⟨hP, hD⟩ := va_join (wr := [(zk, .inl (cI, 2, .inl kn)), (zf, .inl (cI, 4096, .inl fr)), (zt, .inl (cI, 4096, .inl to1)), (zw, .inl (cI, 4096, .inl wh))]) (w1 := [(ma, .inr (6, mo_ th zk zp za zb zx zy (nI ms.length) zf zt zw zm zh x0 y0 dx dy zz cu zo zu)), (zz, .inl (cJ, 192, .inr (.inl za2))), (zx, .inl (cI, 4096, .inl xs)), (zy, .inl (cI, 4096, .inl ys)), (za, .inl (cI, 2, .inl pa)), (zb, .inl (cI, 2050, .inl bg)), (zp, .inl (cI, 2, .inl pt))]) hP hD [4, 5, 6, 7, 2, 3, 1] [0, 8, 9, 10] rfl rfl (by decide) (by decide) hk1 hFc hP1 hD1
        clear hPc hDc hFc hP1 hD1 hK1 hk1 hz1 hvm ht
        generalize H1 = H at hP hS ⊢
        have hP : va_P g vwCl [(zk, .inl (cI, 2, .inl kn)), (zf, .inl (cI, 4096, .inl fr)), (zt, .inl (cI, 4096, .inl to1)), (zw, .inl (cI, 4096, .inl wh)), (ma, .inr (6, mo_ th zk zp za zb zx zy (nI ms.length) zf zt zw zm zh x0 y0 dx dy zz cu zo zu)), (zz, .inl (cJ, 192, .inr (.inl za2))), (zx, .inl (cI, 4096, .inl xs)), (zy, .inl (cI, 4096, .inl ys)), (za, .inl (cI, 2, .inl pa)), (zb, .inl (cI, 2050, .inl bg)), (zp, .inl (cI, 2, .inl pt))] H := hP
        have hD : va_D A [(zk, .inl (cI, 2, .inl kn)), (zf, .inl (cI, 4096, .inl fr)), (zt, .inl (cI, 4096, .inl to1)), (zw, .inl (cI, 4096, .inl wh)), (ma, .inr (6, mo_ th zk zp za zb zx zy (nI ms.length) zf zt zw zm zh x0 y0 dx dy zz cu zo zu)), (zz, .inl (cJ, 192, .inr (.inl za2))), (zx, .inl (cI, 4096, .inl xs)), (zy, .inl (cI, 4096, .inl ys)), (za, .inl (cI, 2, .inl pa)), (zb, .inl (cI, 2050, .inl bg)), (zp, .inl (cI, 2, .inl pt))] := hD
        obtain ⟨eza2, qza2⟩ := wza2
        refine lv_if_eq (tgt := 60) hx hb dX6_where_53 (by decide) (fun c3 => ?_) (fun c3 => ?_)
        · have h1 : ¬ en_ (isp_ xs ys x0 y0 dx dy nm dn) (SN sh) (PA sh) (PT sh) (2048 * sh) (PA sh) % 2 = 1 := fun h => absurd c3 (by rw [eza2]; unfold bo_; rw [if_pos h]; decide)
          refine lv_iload_n hx hb dX6_where_60 rfl (lv_at hl 0 rfl) ?_
          refine lv_if_eq (tgt := 68) hx hb dX6_where_61 (by decide) (fun c4 => ?_) (fun c4 => ?_)
          · have h0 : ¬ 0 < ms.countP (hF_ xs ys x0 y0 dx dy nm dn sh) := fun h => absurd c4 (by unfold bo_; rw [if_pos h]; decide)
            refine lv_iconst (v := 2) hx hb dX6_where_68 (by decide) ?_
            have hP9 := hP.sub (ws' := [(ma, .inr (6, mo_ th zk zp za zb zx zy (nI ms.length) zf zt zw zm zh x0 y0 dx dy zz cu zo zu)), (zk, .inl (cI, 2, .inl kn)), (zp, .inl (cI, 2, .inl pt)), (za, .inl (cI, 2, .inl pa)), (zb, .inl (cI, 2050, .inl bg)), (zx, .inl (cI, 4096, .inl xs)), (zy, .inl (cI, 4096, .inl ys)), (zf, .inl (cI, 4096, .inl fr)), (zt, .inl (cI, 4096, .inl to1)), (zw, .inl (cI, 4096, .inl wh)), (zz, .inl (cJ, 192, .inr (.inl za2)))]) [4, 0, 10, 8, 9, 6, 7, 1, 2, 3, 5] rfl
            have hD9 := hD.sub (ws' := [(ma, .inr (6, mo_ th zk zp za zb zx zy (nI ms.length) zf zt zw zm zh x0 y0 dx dy zz cu zo zu)), (zk, .inl (cI, 2, .inl kn)), (zp, .inl (cI, 2, .inl pt)), (za, .inl (cI, 2, .inl pa)), (zb, .inl (cI, 2050, .inl bg)), (zx, .inl (cI, 4096, .inl xs)), (zy, .inl (cI, 4096, .inl ys)), (zf, .inl (cI, 4096, .inl fr)), (zt, .inl (cI, 4096, .inl to1)), (zw, .inl (cI, 4096, .inl wh)), (zz, .inl (cJ, 192, .inr (.inl za2)))]) [4, 0, 10, 8, 9, 6, 7, 1, 2, 3, 5] (by decide) rfl
            exact W.iret (v := 2) hx hb hr (fun t ht hW => ⟨⟨2, za2, rfl, ⟨by unfold whr_; rw [if_neg k1, if_pos k2, if_neg h1, if_neg h0], qza2⟩, by rw [ht]; exact hP9, va_K.moved hW.alike hK, hD9⟩, hS.F ht⟩) hS.2.2 dX6_where_69
          · have h0 : 0 < ms.countP (hF_ xs ys x0 y0 dx dy nm dn sh) := by rcases Nat.lt_or_ge 0 (ms.countP (hF_ xs ys x0 y0 dx dy nm dn sh)) with q | q; (· exact q); exact absurd (by unfold bo_; rw [if_neg (by omega)]) c4
            refine lv_iconst (v := 0) hx hb dX6_where_64 (by decide) ?_
            refine lv_goto (tgt := 69) hx hb dX6_where_65 (by decide) ?_
            have hP9 := hP.sub (ws' := [(ma, .inr (6, mo_ th zk zp za zb zx zy (nI ms.length) zf zt zw zm zh x0 y0 dx dy zz cu zo zu)), (zk, .inl (cI, 2, .inl kn)), (zp, .inl (cI, 2, .inl pt)), (za, .inl (cI, 2, .inl pa)), (zb, .inl (cI, 2050, .inl bg)), (zx, .inl (cI, 4096, .inl xs)), (zy, .inl (cI, 4096, .inl ys)), (zf, .inl (cI, 4096, .inl fr)), (zt, .inl (cI, 4096, .inl to1)), (zw, .inl (cI, 4096, .inl wh)), (zz, .inl (cJ, 192, .inr (.inl za2)))]) [4, 0, 10, 8, 9, 6, 7, 1, 2, 3, 5] rfl
            have hD9 := hD.sub (ws' := [(ma, .inr (6, mo_ th zk zp za zb zx zy (nI ms.length) zf zt zw zm zh x0 y0 dx dy zz cu zo zu)), (zk, .inl (cI, 2, .inl kn)), (zp, .inl (cI, 2, .inl pt)), (za, .inl (cI, 2, .inl pa)), (zb, .inl (cI, 2050, .inl bg)), (zx, .inl (cI, 4096, .inl xs)), (zy, .inl (cI, 4096, .inl ys)), (zf, .inl (cI, 4096, .inl fr)), (zt, .inl (cI, 4096, .inl to1)), (zw, .inl (cI, 4096, .inl wh)), (zz, .inl (cJ, 192, .inr (.inl za2)))]) [4, 0, 10, 8, 9, 6, 7, 1, 2, 3, 5] (by decide) rfl
            exact W.iret (v := 0) hx hb hr (fun t ht hW => ⟨⟨0, za2, rfl, ⟨by unfold whr_; rw [if_neg k1, if_pos k2, if_neg h1, if_pos h0], qza2⟩, by rw [ht]; exact hP9, va_K.moved hW.alike hK, hD9⟩, hS.F ht⟩) hS.2.2 dX6_where_69
        · have h1 : en_ (isp_ xs ys x0 y0 dx dy nm dn) (SN sh) (PA sh) (PT sh) (2048 * sh) (PA sh) % 2 = 1 := by rcases Nat.decEq (en_ (isp_ xs ys x0 y0 dx dy nm dn) (SN sh) (PA sh) (PT sh) (2048 * sh) (PA sh) % 2) 1 with q | q; (· exact absurd (by rw [eza2]; unfold bo_; rw [if_neg q]) c3); exact q
          refine lv_iconst (v := 1) hx hb dX6_where_56 (by decide) ?_
          refine lv_goto (tgt := 69) hx hb dX6_where_57 (by decide) ?_
          have hP9 := hP.sub (ws' := [(ma, .inr (6, mo_ th zk zp za zb zx zy (nI ms.length) zf zt zw zm zh x0 y0 dx dy zz cu zo zu)), (zk, .inl (cI, 2, .inl kn)), (zp, .inl (cI, 2, .inl pt)), (za, .inl (cI, 2, .inl pa)), (zb, .inl (cI, 2050, .inl bg)), (zx, .inl (cI, 4096, .inl xs)), (zy, .inl (cI, 4096, .inl ys)), (zf, .inl (cI, 4096, .inl fr)), (zt, .inl (cI, 4096, .inl to1)), (zw, .inl (cI, 4096, .inl wh)), (zz, .inl (cJ, 192, .inr (.inl za2)))]) [4, 0, 10, 8, 9, 6, 7, 1, 2, 3, 5] rfl
          have hD9 := hD.sub (ws' := [(ma, .inr (6, mo_ th zk zp za zb zx zy (nI ms.length) zf zt zw zm zh x0 y0 dx dy zz cu zo zu)), (zk, .inl (cI, 2, .inl kn)), (zp, .inl (cI, 2, .inl pt)), (za, .inl (cI, 2, .inl pa)), (zb, .inl (cI, 2050, .inl bg)), (zx, .inl (cI, 4096, .inl xs)), (zy, .inl (cI, 4096, .inl ys)), (zf, .inl (cI, 4096, .inl fr)), (zt, .inl (cI, 4096, .inl to1)), (zw, .inl (cI, 4096, .inl wh)), (zz, .inl (cJ, 192, .inr (.inl za2)))]) [4, 0, 10, 8, 9, 6, 7, 1, 2, 3, 5] (by decide) rfl
          exact W.iret (v := 1) hx hb hr (fun t ht hW => ⟨⟨1, za2, rfl, ⟨by unfold whr_; rw [if_neg k1, if_pos k2, if_pos h1], qza2⟩, by rw [ht]; exact hP9, va_K.moved hW.alike hK, hD9⟩, hS.F ht⟩) hS.2.2 dX6_where_69
  · refine lv_aload_n hx hb dX6_where_10 rfl (lv_at hl 0 rfl) ?_
    refine lv_iload_n hx hb dX6_where_11 rfl (lv_at hl 1 rfl) ?_
    have hPc := hP.sub (ws' := [(ma, .inr (6, mo_ th zk zp za zb zx zy (nI ms.length) zf zt zw zm zh x0 y0 dx dy zz cu zo zu)), (zz, .inl (cJ, 192, .inr (.inl z))), (zx, .inl (cI, 4096, .inl xs)), (zy, .inl (cI, 4096, .inl ys)), (zp, .inl (cI, 2, .inl pt))]) [0, 10, 5, 6, 2] rfl
    have hDc := hD.sub (ws' := [(ma, .inr (6, mo_ th zk zp za zb zx zy (nI ms.length) zf zt zw zm zh x0 y0 dx dy zz cu zo zu)), (zz, .inl (cJ, 192, .inr (.inl z))), (zx, .inl (cI, 4096, .inl xs)), (zy, .inl (cI, 4096, .inl ys)), (zp, .inl (cI, 2, .inl pt))]) [0, 10, 5, 6, 2] (by decide) rfl
    have hFc := va_free (wc := [(ma, .inr (6, mo_ th zk zp za zb zx zy (nI ms.length) zf zt zw zm zh x0 y0 dx dy zz cu zo zu)), (zz, .inl (cJ, 192, .inr (.inl z))), (zx, .inl (cI, 4096, .inl xs)), (zy, .inl (cI, 4096, .inl ys)), (zp, .inl (cI, 2, .inl pt))]) hD hS hA [0, 10, 5, 6, 2] rfl
    refine va_calli (va_runV (As := [.int (nI sh)]) (rest := []) ⟨hx, hb, hml, hown, hts⟩ (kX6_hasPoint l g cI cJ cZ s.heap.size ma th (nI ms.length) x0 y0 dx dy cu zk zp za zb zx zy zf zt zw zm zh zz zo zu z xs ys pt nm dn sh (PT sh) hq hs s1 s3) (cwV 1 hts gX6_where_X6_hasPoint rfl rfl rfl (by decide +kernel) ⟨Nat.le_of_ble_eq_true rfl, Nat.le_of_ble_eq_true rfl⟩) (pv_ hK hPc hDc (va_recv hK hPc (ci := 6) (q0 := 0) rfl rfl)) rfl rfl hl.1 rfl (lv_room (Nat.le_of_ble_eq_true rfl)) dX6_where_12 ⟨Nat.zero_le _, Nat.zero_le _⟩) hS (fun q _ h => hFc q h) hFc (fun r1 u t H1 locs ht hvm wza1 hB hz1 hk1 hS => ?_)
    obtain ⟨za1, rfl⟩ : ∃ z, z = u := ⟨_, rfl⟩
    obtain ⟨hP1, hK1, hD1⟩ := hB
    rw [ht] at hP1
    obtain ⟨hP, hD⟩ := va_join (wr := [(zk, .inl (cI, 2, .inl kn)), (za, .inl (cI, 2, .inl pa)), (zb, .inl (cI, 2050, .inl bg)), (zf, .inl (cI, 4096, .inl fr)), (zt, .inl (cI, 4096, .inl to1)), (zw, .inl (cI, 4096, .inl wh))]) (w1 := [(ma, .inr (6, mo_ th zk zp za zb zx zy (nI ms.length) zf zt zw zm zh x0 y0 dx dy zz cu zo zu)), (zz, .inl (cJ, 192, .inr (.inl za1))), (zx, .inl (cI, 4096, .inl xs)), (zy, .inl (cI, 4096, .inl ys)), (zp, .inl (cI, 2, .inl pt))]) hP hD [0, 10, 5, 6, 2] [1, 3, 4, 7, 8, 9] rfl rfl (by decide) (by decide) hk1 hFc hP1 hD1
    clear hPc hDc hFc hP1 hD1 hK1 hk1 hz1 hvm ht
    generalize H1 = H at hP hS ⊢
    have hP : va_P g vwCl [(zk, .inl (cI, 2, .inl kn)), (za, .inl (cI, 2, .inl pa)), (zb, .inl (cI, 2050, .inl bg)), (zf, .inl (cI, 4096, .inl fr)), (zt, .inl (cI, 4096, .inl to1)), (zw, .inl (cI, 4096, .inl wh)), (ma, .inr (6, mo_ th zk zp za zb zx zy (nI ms.length) zf zt zw zm zh x0 y0 dx dy zz cu zo zu)), (zz, .inl (cJ, 192, .inr (.inl za1))), (zx, .inl (cI, 4096, .inl xs)), (zy, .inl (cI, 4096, .inl ys)), (zp, .inl (cI, 2, .inl pt))] H := hP
    have hD : va_D A [(zk, .inl (cI, 2, .inl kn)), (za, .inl (cI, 2, .inl pa)), (zb, .inl (cI, 2050, .inl bg)), (zf, .inl (cI, 4096, .inl fr)), (zt, .inl (cI, 4096, .inl to1)), (zw, .inl (cI, 4096, .inl wh)), (ma, .inr (6, mo_ th zk zp za zb zx zy (nI ms.length) zf zt zw zm zh x0 y0 dx dy zz cu zo zu)), (zz, .inl (cJ, 192, .inr (.inl za1))), (zx, .inl (cI, 4096, .inl xs)), (zy, .inl (cI, 4096, .inl ys)), (zp, .inl (cI, 2, .inl pt))] := hD
    obtain ⟨eza1, qza1⟩ := wza1
    refine lv_if_eq (tgt := 22) hx hb dX6_where_15 (by decide) (fun c2 => ?_) (fun c2 => ?_)
    · refine lv_iconst (v := 2) hx hb dX6_where_22 (by decide) ?_
      have hP9 := hP.sub (ws' := [(ma, .inr (6, mo_ th zk zp za zb zx zy (nI ms.length) zf zt zw zm zh x0 y0 dx dy zz cu zo zu)), (zk, .inl (cI, 2, .inl kn)), (zp, .inl (cI, 2, .inl pt)), (za, .inl (cI, 2, .inl pa)), (zb, .inl (cI, 2050, .inl bg)), (zx, .inl (cI, 4096, .inl xs)), (zy, .inl (cI, 4096, .inl ys)), (zf, .inl (cI, 4096, .inl fr)), (zt, .inl (cI, 4096, .inl to1)), (zw, .inl (cI, 4096, .inl wh)), (zz, .inl (cJ, 192, .inr (.inl za1)))]) [6, 0, 10, 1, 2, 8, 9, 3, 4, 5, 7] rfl
      have hD9 := hD.sub (ws' := [(ma, .inr (6, mo_ th zk zp za zb zx zy (nI ms.length) zf zt zw zm zh x0 y0 dx dy zz cu zo zu)), (zk, .inl (cI, 2, .inl kn)), (zp, .inl (cI, 2, .inl pt)), (za, .inl (cI, 2, .inl pa)), (zb, .inl (cI, 2050, .inl bg)), (zx, .inl (cI, 4096, .inl xs)), (zy, .inl (cI, 4096, .inl ys)), (zf, .inl (cI, 4096, .inl fr)), (zt, .inl (cI, 4096, .inl to1)), (zw, .inl (cI, 4096, .inl wh)), (zz, .inl (cJ, 192, .inr (.inl za1)))]) [6, 0, 10, 1, 2, 8, 9, 3, 4, 5, 7] (by decide) rfl
      exact W.iret (v := 2) hx hb hr (fun t ht hW => ⟨⟨2, za1, rfl, ⟨by unfold whr_; rw [if_pos k1, if_pos (by rw [← eza1]; exact c2)], qza1⟩, by rw [ht]; exact hP9, va_K.moved hW.alike hK, hD9⟩, hS.F ht⟩) hS.2.2 dX6_where_23
    · refine lv_iconst (v := 0) hx hb dX6_where_18 (by decide) ?_
      refine lv_goto (tgt := 23) hx hb dX6_where_19 (by decide) ?_
      have hP9 := hP.sub (ws' := [(ma, .inr (6, mo_ th zk zp za zb zx zy (nI ms.length) zf zt zw zm zh x0 y0 dx dy zz cu zo zu)), (zk, .inl (cI, 2, .inl kn)), (zp, .inl (cI, 2, .inl pt)), (za, .inl (cI, 2, .inl pa)), (zb, .inl (cI, 2050, .inl bg)), (zx, .inl (cI, 4096, .inl xs)), (zy, .inl (cI, 4096, .inl ys)), (zf, .inl (cI, 4096, .inl fr)), (zt, .inl (cI, 4096, .inl to1)), (zw, .inl (cI, 4096, .inl wh)), (zz, .inl (cJ, 192, .inr (.inl za1)))]) [6, 0, 10, 1, 2, 8, 9, 3, 4, 5, 7] rfl
      have hD9 := hD.sub (ws' := [(ma, .inr (6, mo_ th zk zp za zb zx zy (nI ms.length) zf zt zw zm zh x0 y0 dx dy zz cu zo zu)), (zk, .inl (cI, 2, .inl kn)), (zp, .inl (cI, 2, .inl pt)), (za, .inl (cI, 2, .inl pa)), (zb, .inl (cI, 2050, .inl bg)), (zx, .inl (cI, 4096, .inl xs)), (zy, .inl (cI, 4096, .inl ys)), (zf, .inl (cI, 4096, .inl fr)), (zt, .inl (cI, 4096, .inl to1)), (zw, .inl (cI, 4096, .inl wh)), (zz, .inl (cJ, 192, .inr (.inl za1)))]) [6, 0, 10, 1, 2, 8, 9, 3, 4, 5, 7] (by decide) rfl
      exact W.iret (v := 0) hx hb hr (fun t ht hW => ⟨⟨0, za1, rfl, ⟨by unfold whr_; rw [if_pos k1, if_neg (by rw [← eza1]; exact c2)], qza1⟩, by rw [ht]; exact hP9, va_K.moved hW.alike hK, hD9⟩, hS.F ht⟩) hS.2.2 dX6_where_23
end
