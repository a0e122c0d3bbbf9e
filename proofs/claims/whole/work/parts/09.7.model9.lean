section
theorem ikX6_beside_X6 : ∀ w ∈ wsX60, w ∈ wsX6_beside := by decide +kernel
set_option maxHeartbeats 1000000 in
set_option maxRecDepth 100000 in
theorem kX6_beside (l : Launch) (g : va_G) (cI cJ cZ : ClassId) (sz : Nat) (ma : Nat) (th : Int32) (x0 : Int64) (y0 : Int64) (dx : Int64) (dy : Int64) (cu : Int32) (zk : Nat) (zp : Nat) (za : Nat) (zb : Nat) (zx : Nat) (zy : Nat) (zf : Nat) (zt : Nat) (zw : Nat) (zm : Nat) (zh : Nat) (zz : Nat) (zo : Nat) (zu : Nat) (z : Nat → Int64) (xs : Nat → Int32) (ys : Nat → Int32) (fr : Nat → Int32) (to1 : Nat → Int32) (wh : Nat → Int32) (kn : Nat → Int32) (ha : Nat → Int32) (nm : Int) (dn : Int) (ms : List (Nat × Nat × Nat)) (sh : Nat) (ot : Int32) (hq : gq_ z nm dn) (hs : sh < 2) (hl1 : ms.length ≤ 4096) (hm3 : ml3_ fr to1 wh ms) (hmb : ∀ q ∈ ms, q.1 < 4096 ∧ q.2.1 < 4096 ∧ q.2.2 < 2) : Met l yX6_beside wsX6_beside ({ frames := 6, cells := 0, slots := 0, locals := 147 }) (pc_ g cI cJ cZ [.ref ma, .int (nI sh), .int ot] [(ma, .inr (6, mo_ th zk zp za zb zx zy (nI ms.length) zf zt zw zm zh x0 y0 dx dy zz cu zo zu)), (zz, .inl (cJ, 192, .inr (.inl z))), (zx, .inl (cI, 4096, .inl xs)), (zy, .inl (cI, 4096, .inl ys)), (zf, .inl (cI, 4096, .inl fr)), (zt, .inl (cI, 4096, .inl to1)), (zw, .inl (cI, 4096, .inl wh)), (zk, .inl (cI, 2, .inl kn)), (zh, .inl (cZ, 2, .inl ha))] sz) (va_Qi (fun (r : Int32) (z2 : (Nat → Int64)) => r = bsr_ (kn sh) (bsn_ xs ys x0 y0 dx dy nm dn ms sh ot) ∧ gq_ z2 nm dn) (fun (z2 : (Nat → Int64)) t => wd_ g cI cJ cZ (va_A [(ma, .inr (6, mo_ th zk zp za zb zx zy (nI ms.length) zf zt zw zm zh x0 y0 dx dy zz cu zo zu)), (zz, .inl (cJ, 192, .inr (.inl z))), (zx, .inl (cI, 4096, .inl xs)), (zy, .inl (cI, 4096, .inl ys)), (zf, .inl (cI, 4096, .inl fr)), (zt, .inl (cI, 4096, .inl to1)), (zw, .inl (cI, 4096, .inl wh)), (zk, .inl (cI, 2, .inl kn)), (zh, .inl (cZ, 2, .inl ha))] sz) [(ma, .inr (6, mo_ th zk zp za zb zx zy (nI ms.length) zf zt zw zm zh x0 y0 dx dy zz cu zo zu)), (zz, .inl (cJ, 192, .inr (.inl z2))), (zx, .inl (cI, 4096, .inl xs)), (zy, .inl (cI, 4096, .inl ys)), (zf, .inl (cI, 4096, .inl fr)), (zt, .inl (cI, 4096, .inl to1)), (zw, .inl (cI, 4096, .inl wh)), (zk, .inl (cI, 2, .inl kn)), (zh, .inl (cZ, 2, .inl (bsh_ (kn sh) (bsn_ xs ys x0 y0 dx dy nm dn ms sh ot) sh ha)))] t) (va_A [(ma, .inr (6, mo_ th zk zp za zb zx zy (nI ms.length) zf zt zw zm zh x0 y0 dx dy zz cu zo zu)), (zz, .inl (cJ, 192, .inr (.inl z))), (zx, .inl (cI, 4096, .inl xs)), (zy, .inl (cI, 4096, .inl ys)), (zf, .inl (cI, 4096, .inl fr)), (zt, .inl (cI, 4096, .inl to1)), (zw, .inl (cI, 4096, .inl wh)), (zk, .inl (cI, 2, .inl kn)), (zh, .inl (cZ, 2, .inl ha))] sz)) (0) (0) (va_A [(ma, .inr (6, mo_ th zk zp za zb zx zy (nI ms.length) zf zt zw zm zh x0 y0 dx dy zz cu zo zu)), (zz, .inl (cJ, 192, .inr (.inl z))), (zx, .inl (cI, 4096, .inl xs)), (zy, .inl (cI, 4096, .inl ys)), (zf, .inl (cI, 4096, .inl fr)), (zt, .inl (cI, 4096, .inl to1)), (zw, .inl (cI, 4096, .inl wh)), (zk, .inl (cI, 2, .inl kn)), (zh, .inl (cZ, 2, .inl ha))] sz) := by
  refine Met.ofW (cc := cX6_beside) (maxL := 4) (ret := (some .int)) (by decide) rfl ?_
  intro p e s m args below meth c s₁ B hml hv
  obtain ⟨rfl, hsz, hP, hK, hD0⟩ := hv
  have hx := B.exec
  have hb := B.bytes
  have hr := B.returns
  have hts := atoms_spec (ws := wsX6_beside) B.pre
  have hown : s.vm.findClass RX6 = some m.cls := findClass_of_methodNamed B.named
  have hlocks := B.notSynchronized
  subst hsz
  have hD := hD0.self (sz := s.heap.size)
  generalize hAe : va_A [(ma, .inr (6, mo_ th zk zp za zb zx zy (nI ms.length) zf zt zw zm zh x0 y0 dx dy zz cu zo zu)), (zz, .inl (cJ, 192, .inr (.inl z))), (zx, .inl (cI, 4096, .inl xs)), (zy, .inl (cI, 4096, .inl ys)), (zf, .inl (cI, 4096, .inl fr)), (zt, .inl (cI, 4096, .inl to1)), (zw, .inl (cI, 4096, .inl wh)), (zk, .inl (cI, 2, .inl kn)), (zh, .inl (cZ, 2, .inl ha))] s.heap.size = A at hD ⊢
  have hA : ∀ q : Nat, s.heap.size ≤ q → A q := fun q h => by rw [← hAe]; exact Or.inr h
  have hS : va_S A s.heap s.heap [] := va_S.rf
  have hP : va_P g vwCl [(ma, .inr (6, mo_ th zk zp za zb zx zy (nI ms.length) zf zt zw zm zh x0 y0 dx dy zz cu zo zu)), (zz, .inl (cJ, 192, .inr (.inl z))), (zx, .inl (cI, 4096, .inl xs)), (zy, .inl (cI, 4096, .inl ys)), (zf, .inl (cI, 4096, .inl fr)), (zt, .inl (cI, 4096, .inl to1)), (zw, .inl (cI, 4096, .inl wh)), (zk, .inl (cI, 2, .inl kn)), (zh, .inl (cZ, 2, .inl ha))] s.heap := hP
  have hl := lv_entry ([.ref ma, .int (nI sh), .int ot]) (n := 4) (Nat.le_of_ble_eq_true rfl)
  rw [lg_entry_eq]
  generalize (lg_sl ([.ref ma, .int (nI sh), .int ot]) ++ List.replicate (4 - (lg_sl ([.ref ma, .int (nI sh), .int ot])).length) Slot.unset).toArray = ls at hl ⊢
  have hl : lv_has ls 4 [(0, .ref ma), (1, .int (nI sh)), (2, .int ot)] := hl
  have hH0 : s.heap = s.heap := rfl
  have hiX6 := ikX6_beside_X6
  refine lv_aload_n hx hb dX6_beside_0 rfl (lv_at hl 0 rfl) ?_
  refine va_get (D := g) (ci := 6) (v := .ref zk) (C := RX6) (T := TX6) (N := 21) hx hb hts hiX6 hown hK hP 0 rfl rfl 1 (by decide) (hts (.fieldLink RX6 7 "ShapeRelatorModel" "kinds" "[I") (List.mem_of_getElem? (i := 1) rfl)) (fun _ h9 => h9) rfl dX6_beside_1 ?_
  refine lv_iload_n hx hb dX6_beside_4 rfl (lv_at hl 1 rfl) ?_
  refine va_iald (D := g) hx hb hK hP 7 0 rfl rfl (vp_in_nI (show sh < 2 by omega) (by omega)) dX6_beside_5 ?_
  refine tpi_ (y := (kn sh)) (by rw [nI_clamp (by omega)]) ?_
  refine lv_iconst (v := 3) hx hb dX6_beside_6 (by decide) ?_
  refine lv_icmp_ge (tgt := 12) hx hb dX6_beside_7 (by decide) (fun c1 => ?_) (fun c1 => ?_)
  · have b1 : ms.countP (hF_ xs ys x0 y0 dx dy nm dn sh) ≤ ms.length := List.countP_le_length
    have b2 : ms.countP (cF_ xs ys x0 y0 dx dy nm dn sh) ≤ ms.length := List.countP_le_length
    have c1 := Int32.not_lt.mpr c1
    refine lv_aload_n hx hb dX6_beside_12 rfl (lv_at hl 0 rfl) ?_
    refine lv_iload_n hx hb dX6_beside_13 rfl (lv_at hl 1 rfl) ?_
    have hPc := hP.sub (ws' := [(ma, .inr (6, mo_ th zk zp za zb zx zy (nI ms.length) zf zt zw zm zh x0 y0 dx dy zz cu zo zu)), (zz, .inl (cJ, 192, .inr (.inl z))), (zx, .inl (cI, 4096, .inl xs)), (zy, .inl (cI, 4096, .inl ys)), (zf, .inl (cI, 4096, .inl fr)), (zt, .inl (cI, 4096, .inl to1)), (zw, .inl (cI, 4096, .inl wh))]) [0, 1, 2, 3, 4, 5, 6] rfl
    have hDc := hD.sub (ws' := [(ma, .inr (6, mo_ th zk zp za zb zx zy (nI ms.length) zf zt zw zm zh x0 y0 dx dy zz cu zo zu)), (zz, .inl (cJ, 192, .inr (.inl z))), (zx, .inl (cI, 4096, .inl xs)), (zy, .inl (cI, 4096, .inl ys)), (zf, .inl (cI, 4096, .inl fr)), (zt, .inl (cI, 4096, .inl to1)), (zw, .inl (cI, 4096, .inl wh))]) [0, 1, 2, 3, 4, 5, 6] (by decide) rfl
    have hFc := va_free (wc := [(ma, .inr (6, mo_ th zk zp za zb zx zy (nI ms.length) zf zt zw zm zh x0 y0 dx dy zz cu zo zu)), (zz, .inl (cJ, 192, .inr (.inl z))), (zx, .inl (cI, 4096, .inl xs)), (zy, .inl (cI, 4096, .inl ys)), (zf, .inl (cI, 4096, .inl fr)), (zt, .inl (cI, 4096, .inl to1)), (zw, .inl (cI, 4096, .inl wh))]) hD hS hA [0, 1, 2, 3, 4, 5, 6] rfl
    refine va_calli (va_runV (As := [.int (nI sh)]) (rest := []) ⟨hx, hb, hml, hown, hts⟩ (kX6_crossed l g cI cJ cZ s.heap.size ma th x0 y0 dx dy cu zk zp za zb zx zy zf zt zw zm zh zz zo zu z xs ys fr to1 wh nm dn ms sh hq hs hl1 hm3 hmb) (cwV 1 hts gX6_beside_X6_crossed rfl rfl rfl (by decide +kernel) ⟨Nat.le_of_ble_eq_true rfl, Nat.le_of_ble_eq_true rfl⟩) (pv_ hK hPc hDc (va_recv hK hPc (ci := 6) (q0 := 0) rfl rfl)) rfl rfl hl.1 rfl (lv_room (Nat.le_of_ble_eq_true rfl)) dX6_beside_14 ⟨Nat.zero_le _, Nat.zero_le _⟩) hS (fun q _ h => hFc q h) hFc (fun r1 u t H1 locs ht hvm wza1 hB hz1 hk1 hS => ?_)
    obtain ⟨za1, rfl⟩ : ∃ z, z = u := ⟨_, rfl⟩
    obtain ⟨hP1, hK1, hD1⟩ := hB
    rw [ht] at hP1
    obtain ⟨hP, hD⟩ := va_join (wr := [(zk, .inl (cI, 2, .inl kn)), (zh, .inl (cZ, 2, .inl ha))]) (w1 := [(ma, .inr (6, mo_ th zk zp za zb zx zy (nI ms.length) zf zt zw zm zh x0 y0 dx dy zz cu zo zu)), (zz, .inl (cJ, 192, .inr (.inl za1))), (zx, .inl (cI, 4096, .inl xs)), (zy, .inl (cI, 4096, .inl ys)), (zf, .inl (cI, 4096, .inl fr)), (zt, .inl (cI, 4096, .inl to1)), (zw, .inl (cI, 4096, .inl wh))]) hP hD [0, 1, 2, 3, 4, 5, 6] [7, 8] rfl rfl (by decide) (by decide) hk1 hFc hP1 hD1
    clear hPc hDc hFc hP1 hD1 hK1 hk1 hz1 hvm ht
    generalize H1 = H at hP hS ⊢
    have hP : va_P g vwCl [(zk, .inl (cI, 2, .inl kn)), (zh, .inl (cZ, 2, .inl ha)), (ma, .inr (6, mo_ th zk zp za zb zx zy (nI ms.length) zf zt zw zm zh x0 y0 dx dy zz cu zo zu)), (zz, .inl (cJ, 192, .inr (.inl za1))), (zx, .inl (cI, 4096, .inl xs)), (zy, .inl (cI, 4096, .inl ys)), (zf, .inl (cI, 4096, .inl fr)), (zt, .inl (cI, 4096, .inl to1)), (zw, .inl (cI, 4096, .inl wh))] H := hP
    have hD : va_D A [(zk, .inl (cI, 2, .inl kn)), (zh, .inl (cZ, 2, .inl ha)), (ma, .inr (6, mo_ th zk zp za zb zx zy (nI ms.length) zf zt zw zm zh x0 y0 dx dy zz cu zo zu)), (zz, .inl (cJ, 192, .inr (.inl za1))), (zx, .inl (cI, 4096, .inl xs)), (zy, .inl (cI, 4096, .inl ys)), (zf, .inl (cI, 4096, .inl fr)), (zt, .inl (cI, 4096, .inl to1)), (zw, .inl (cI, 4096, .inl wh))] := hD
    obtain ⟨eza1, qza1⟩ := wza1
    subst eza1
    refine lv_iload_n hx hb dX6_beside_17 rfl (lv_at hl 2 rfl) ?_
    refine lv_if_eq (tgt := 29) hx hb dX6_beside_18 (by decide) (fun c2 => ?_) (fun c2 => ?_)
    · refine lv_iconst (v := 0) hx hb dX6_beside_29 (by decide) ?_
      have eb : bsn_ xs ys x0 y0 dx dy nm dn ms sh ot = ms.countP (cF_ xs ys x0 y0 dx dy nm dn sh) % 2 + 0 := by unfold bsn_; rw [if_pos c2]
      have b3 : bsn_ xs ys x0 y0 dx dy nm dn ms sh ot < 9000 := by rw [eb]; omega
      refine lv_iadd hx hb dX6_beside_30 ?_
      refine tpi_ (y := (nI (bsn_ xs ys x0 y0 dx dy nm dn ms sh ot))) (by rw [eb]; exact (nI_add _ _).symm) ?_
      refine lv_istore_n (lv' := [(3, .int (nI (bsn_ xs ys x0 y0 dx dy nm dn ms sh ot))), (0, .ref ma), (1, .int (nI sh)), (2, .int ot)]) hx hb dX6_beside_31 rfl hl (by decide) rfl (fun ls hl => ?_)
      refine lv_iload_n hx hb dX6_beside_32 rfl (lv_at hl 0 rfl) ?_
      refine lv_iconst (v := 2) hx hb dX6_beside_33 (by decide) ?_
      refine lv_irem hx hb dX6_beside_34 (by decide) ?_
      refine tpi_ (y := (nI (bsn_ xs ys x0 y0 dx dy nm dn ms sh ot % 2))) ((pk_rem (d := 2) (by omega) (by decide) (by decide)).symm) ?_
      refine lv_iconst (v := 1) hx hb dX6_beside_35 (by decide) ?_
      refine lv_icmp_ne (tgt := 46) hx hb dX6_beside_36 (by decide) (fun c3 => ?_) (fun c3 => ?_)
      · have k3 : ¬ bsn_ xs ys x0 y0 dx dy nm dn ms sh ot % 2 = 1 := fun h => c3 (by rw [h]; rfl)
        have eh : bsh_ (kn sh) (bsn_ xs ys x0 y0 dx dy nm dn ms sh ot) sh ha = ha := by unfold bsh_; rw [if_neg c1, if_neg k3]
        refine lv_iload_n hx hb dX6_beside_46 rfl (lv_at hl 0 rfl) ?_
        refine lv_iconst (v := 2) hx hb dX6_beside_47 (by decide) ?_
        refine lv_irem hx hb dX6_beside_48 (by decide) ?_
        refine tpi_ (y := (nI (bsn_ xs ys x0 y0 dx dy nm dn ms sh ot % 2))) ((pk_rem (d := 2) (by omega) (by decide) (by decide)).symm) ?_
        refine lv_iconst (v := 1) hx hb dX6_beside_49 (by decide) ?_
        refine lv_icmp_ne (tgt := 57) hx hb dX6_beside_50 (by decide) (fun c4 => ?_) (fun c4 => ?_)
        · rw [← eh] at hP hD
          have hP : va_P g vwCl [(zk, .inl (cI, 2, .inl kn)), (zh, .inl (cZ, 2, .inl (bsh_ (kn sh) (bsn_ xs ys x0 y0 dx dy nm dn ms sh ot) sh ha))), (ma, .inr (6, mo_ th zk zp za zb zx zy (nI ms.length) zf zt zw zm zh x0 y0 dx dy zz cu zo zu)), (zz, .inl (cJ, 192, .inr (.inl za1))), (zx, .inl (cI, 4096, .inl xs)), (zy, .inl (cI, 4096, .inl ys)), (zf, .inl (cI, 4096, .inl fr)), (zt, .inl (cI, 4096, .inl to1)), (zw, .inl (cI, 4096, .inl wh))] H := hP
          have hD : va_D A [(zk, .inl (cI, 2, .inl kn)), (zh, .inl (cZ, 2, .inl (bsh_ (kn sh) (bsn_ xs ys x0 y0 dx dy nm dn ms sh ot) sh ha))), (ma, .inr (6, mo_ th zk zp za zb zx zy (nI ms.length) zf zt zw zm zh x0 y0 dx dy zz cu zo zu)), (zz, .inl (cJ, 192, .inr (.inl za1))), (zx, .inl (cI, 4096, .inl xs)), (zy, .inl (cI, 4096, .inl ys)), (zf, .inl (cI, 4096, .inl fr)), (zt, .inl (cI, 4096, .inl to1)), (zw, .inl (cI, 4096, .inl wh))] := hD
          refine lv_iconst (v := 2) hx hb dX6_beside_57 (by decide) ?_
          have hP9 := hP.sub (ws' := [(ma, .inr (6, mo_ th zk zp za zb zx zy (nI ms.length) zf zt zw zm zh x0 y0 dx dy zz cu zo zu)), (zz, .inl (cJ, 192, .inr (.inl za1))), (zx, .inl (cI, 4096, .inl xs)), (zy, .inl (cI, 4096, .inl ys)), (zf, .inl (cI, 4096, .inl fr)), (zt, .inl (cI, 4096, .inl to1)), (zw, .inl (cI, 4096, .inl wh)), (zk, .inl (cI, 2, .inl kn)), (zh, .inl (cZ, 2, .inl (bsh_ (kn sh) (bsn_ xs ys x0 y0 dx dy nm dn ms sh ot) sh ha)))]) [2, 3, 4, 5, 6, 7, 8, 0, 1] rfl
          have hD9 := hD.sub (ws' := [(ma, .inr (6, mo_ th zk zp za zb zx zy (nI ms.length) zf zt zw zm zh x0 y0 dx dy zz cu zo zu)), (zz, .inl (cJ, 192, .inr (.inl za1))), (zx, .inl (cI, 4096, .inl xs)), (zy, .inl (cI, 4096, .inl ys)), (zf, .inl (cI, 4096, .inl fr)), (zt, .inl (cI, 4096, .inl to1)), (zw, .inl (cI, 4096, .inl wh)), (zk, .inl (cI, 2, .inl kn)), (zh, .inl (cZ, 2, .inl (bsh_ (kn sh) (bsn_ xs ys x0 y0 dx dy nm dn ms sh ot) sh ha)))]) [2, 3, 4, 5, 6, 7, 8, 0, 1] (by decide) rfl
          exact W.iret (v := 2) hx hb hr (fun t ht hW => ⟨⟨2, za1, rfl, ⟨by unfold bsr_; rw [if_neg c1, if_neg k3], qza1⟩, by rw [ht]; exact hP9, va_K.moved hW.alike hK, hD9⟩, hS.F ht⟩) hS.2.2 dX6_beside_58
        · exact absurd c4 c3
      · have k3 : bsn_ xs ys x0 y0 dx dy nm dn ms sh ot % 2 = 1 := (nI_eq (b := 1) (by omega) (by decide)).mp c3
        have eh : bsh_ (kn sh) (bsn_ xs ys x0 y0 dx dy nm dn ms sh ot) sh ha = upd ha sh (vp_nar .boolean 1) := by unfold bsh_; rw [if_neg c1, if_pos k3, vz1_]
        refine lv_aload_n hx hb dX6_beside_39 rfl (lv_at hl 1 rfl) ?_
        refine va_get (D := g) (ci := 6) (v := .ref zh) (C := RX6) (T := TX6) (N := 21) hx hb hts hiX6 hown hK hP 2 rfl rfl 12 (by decide) (hts (.fieldLink RX6 40 "ShapeRelatorModel" "hasArea" "[Z") (List.mem_of_getElem? (i := 2) rfl)) (fun _ h9 => h9) rfl dX6_beside_40 ?_
        refine lv_iload_n hx hb dX6_beside_43 rfl (lv_at hl 2 rfl) ?_
        refine lv_iconst (v := 1) hx hb dX6_beside_44 (by decide) ?_
        refine va_zast (D := g) hx hb hK hP hD hS 1 2 rfl rfl (vp_in_nI (show sh < 2 by omega) (by decide)) dX6_beside_45 (fun H locs hP hD hS => ?_)
        rw [nI_clamp (show sh < 2 ^ 31 by omega)] at hP hD
        have hP : va_P g vwCl [(zk, .inl (cI, 2, .inl kn)), (zh, .inl (cZ, 2, .inl (upd ha sh (vp_nar .boolean 1)))), (ma, .inr (6, mo_ th zk zp za zb zx zy (nI ms.length) zf zt zw zm zh x0 y0 dx dy zz cu zo zu)), (zz, .inl (cJ, 192, .inr (.inl za1))), (zx, .inl (cI, 4096, .inl xs)), (zy, .inl (cI, 4096, .inl ys)), (zf, .inl (cI, 4096, .inl fr)), (zt, .inl (cI, 4096, .inl to1)), (zw, .inl (cI, 4096, .inl wh))] H := hP
        have hD : va_D A [(zk, .inl (cI, 2, .inl kn)), (zh, .inl (cZ, 2, .inl (upd ha sh (vp_nar .boolean 1)))), (ma, .inr (6, mo_ th zk zp za zb zx zy (nI ms.length) zf zt zw zm zh x0 y0 dx dy zz cu zo zu)), (zz, .inl (cJ, 192, .inr (.inl za1))), (zx, .inl (cI, 4096, .inl xs)), (zy, .inl (cI, 4096, .inl ys)), (zf, .inl (cI, 4096, .inl fr)), (zt, .inl (cI, 4096, .inl to1)), (zw, .inl (cI, 4096, .inl wh))] := hD
        refine lv_iload_n hx hb dX6_beside_46 rfl (lv_at hl 0 rfl) ?_
        refine lv_iconst (v := 2) hx hb dX6_beside_47 (by decide) ?_
        refine lv_irem hx hb dX6_beside_48 (by decide) ?_
        refine tpi_ (y := (nI (bsn_ xs ys x0 y0 dx dy nm dn ms sh ot % 2))) ((pk_rem (d := 2) (by omega) (by decide) (by decide)).symm) ?_
        refine lv_iconst (v := 1) hx hb dX6_beside_49 (by decide) ?_
        refine lv_icmp_ne (tgt := 57) hx hb dX6_beside_50 (by decide) (fun c4 => ?_) (fun c4 => ?_)
        · exact absurd c3 c4
        · rw [← eh] at hP hD
          have hP : va_P g vwCl [(zk, .inl (cI, 2, .inl kn)), (zh, .inl (cZ, 2, .inl (bsh_ (kn sh) (bsn_ xs ys x0 y0 dx dy nm dn ms sh ot) sh ha))), (ma, .inr (6, mo_ th zk zp za zb zx zy (nI ms.length) zf zt zw zm zh x0 y0 dx dy zz cu zo zu)), (zz, .inl (cJ, 192, .inr (.inl za1))), (zx, .inl (cI, 4096, .inl xs)), (zy, .inl (cI, 4096, .inl ys)), (zf, .inl (cI, 4096, .inl fr)), (zt, .inl (cI, 4096, .inl to1)), (zw, .inl (cI, 4096, .inl wh))] H := hP
          have hD : va_D A [(zk, .inl (cI, 2, .inl kn)), (zh, .inl (cZ, 2, .inl (bsh_ (kn sh) (bsn_ xs ys x0 y0 dx dy nm dn ms sh ot) sh ha))), (ma, .inr (6, mo_ th zk zp za zb zx zy (nI ms.length) zf zt zw zm zh x0 y0 dx dy zz cu zo zu)), (zz, .inl (cJ, 192, .inr (.inl za1))), (zx, .inl (cI, 4096, .inl xs)), (zy, .inl (cI, 4096, .inl ys)), (zf, .inl (cI, 4096, .inl fr)), (zt, .inl (cI, 4096, .inl to1)), (zw, .inl (cI, 4096, .inl wh))] := hD
          refine lv_iconst (v := 0) hx hb dX6_beside_53 (by decide) ?_
          refine lv_goto (tgt := 58) hx hb dX6_beside_54 (by decide) ?_
          have hP9 := hP.sub (ws' := [(ma, .inr (6, mo_ th zk zp za zb zx zy (nI ms.length) zf zt zw zm zh x0 y0 dx dy zz cu zo zu)), (zz, .inl (cJ, 192, .inr (.inl za1))), (zx, .inl (cI, 4096, .inl xs)), (zy, .inl (cI, 4096, .inl ys)), (zf, .inl (cI, 4096, .inl fr)), (zt, .inl (cI, 4096, .inl to1)), (zw, .inl (cI, 4096, .inl wh)), (zk, .inl (cI, 2, .inl kn)), (zh, .inl (cZ, 2, .inl (bsh_ (kn sh) (bsn_ xs ys x0 y0 dx dy nm dn ms sh ot) sh ha)))]) [2, 3, 4, 5, 6, 7, 8, 0, 1] rfl
          have hD9 := hD.sub (ws' := [(ma, .inr (6, mo_ th zk zp za zb zx zy (nI ms.length) zf zt zw zm zh x0 y0 dx dy zz cu zo zu)), (zz, .inl (cJ, 192, .inr (.inl za1))), (zx, .inl (cI, 4096, .inl xs)), (zy, .inl (cI, 4096, .inl ys)), (zf, .inl (cI, 4096, .inl fr)), (zt, .inl (cI, 4096, .inl to1)), (zw, .inl (cI, 4096, .inl wh)), (zk, .inl (cI, 2, .inl kn)), (zh, .inl (cZ, 2, .inl (bsh_ (kn sh) (bsn_ xs ys x0 y0 dx dy nm dn ms sh ot) sh ha)))]) [2, 3, 4, 5, 6, 7, 8, 0, 1] (by decide) rfl
          exact W.iret (v := 0) hx hb hr (fun t ht hW => ⟨⟨0, za1, rfl, ⟨by unfold bsr_; rw [if_neg c1, if_pos k3], qza1⟩, by rw [ht]; exact hP9, va_K.moved hW.alike hK, hD9⟩, hS.F ht⟩) hS.2.2 dX6_beside_58
    · refine lv_aload_n hx hb dX6_beside_21 rfl (lv_at hl 0 rfl) ?_
      refine lv_iload_n hx hb dX6_beside_22 rfl (lv_at hl 1 rfl) ?_
      have hPc := hP.sub (ws' := [(ma, .inr (6, mo_ th zk zp za zb zx zy (nI ms.length) zf zt zw zm zh x0 y0 dx dy zz cu zo zu)), (zz, .inl (cJ, 192, .inr (.inl za1))), (zx, .inl (cI, 4096, .inl xs)), (zy, .inl (cI, 4096, .inl ys)), (zf, .inl (cI, 4096, .inl fr)), (zt, .inl (cI, 4096, .inl to1)), (zw, .inl (cI, 4096, .inl wh))]) [2, 3, 4, 5, 6, 7, 8] rfl
      have hDc := hD.sub (ws' := [(ma, .inr (6, mo_ th zk zp za zb zx zy (nI ms.length) zf zt zw zm zh x0 y0 dx dy zz cu zo zu)), (zz, .inl (cJ, 192, .inr (.inl za1))), (zx, .inl (cI, 4096, .inl xs)), (zy, .inl (cI, 4096, .inl ys)), (zf, .inl (cI, 4096, .inl fr)), (zt, .inl (cI, 4096, .inl to1)), (zw, .inl (cI, 4096, .inl wh))]) [2, 3, 4, 5, 6, 7, 8] (by decide) rfl
      have hFc := va_free (wc := [(ma, .inr (6, mo_ th zk zp za zb zx zy (nI ms.length) zf zt zw zm zh x0 y0 dx dy zz cu zo zu)), (zz, .inl (cJ, 192, .inr (.inl za1))), (zx, .inl (cI, 4096, .inl xs)), (zy, .inl (cI, 4096, .inl ys)), (zf, .inl (cI, 4096, .inl fr)), (zt, .inl (cI, 4096, .inl to1)), (zw, .inl (cI, 4096, .inl wh))]) hD hS hA [2, 3, 4, 5, 6, 7, 8] rfl
      refine va_calli (va_runV (As := [.int (nI sh)]) (rest := [.int (nI (ms.countP (cF_ xs ys x0 y0 dx dy nm dn sh) % 2))]) ⟨hx, hb, hml, hown, hts⟩ (kX6_having l g cI cJ cZ H.size ma th x0 y0 dx dy cu zk zp za zb zx zy zf zt zw zm zh zz zo zu za1 xs ys fr to1 wh nm dn ms sh qza1 hs hl1 hm3 hmb) (cwV 1 hts gX6_beside_X6_having rfl rfl rfl (by decide +kernel) ⟨Nat.le_of_ble_eq_true rfl, Nat.le_of_ble_eq_true rfl⟩) (pv_ hK hPc hDc (va_recv hK hPc (ci := 6) (q0 := 0) rfl rfl)) rfl rfl hl.1 rfl (lv_room (Nat.le_of_ble_eq_true rfl)) dX6_beside_23 ⟨Nat.zero_le _, Nat.zero_le _⟩) hS (fun q _ h => hFc q h) hFc (fun r2 u t H1 locs ht hvm wza2 hB hz1 hk1 hS => ?_)
      obtain ⟨za2, rfl⟩ : ∃ z, z = u := ⟨_, rfl⟩
      obtain ⟨hP1, hK1, hD1⟩ := hB
      rw [ht] at hP1
      obtain ⟨hP, hD⟩ := va_join (wr := [(zk, .inl (cI, 2, .inl kn)), (zh, .inl (cZ, 2, .inl ha))]) (w1 := [(ma, .inr (6, mo_ th zk zp za zb zx zy (nI ms.length) zf zt zw zm zh x0 y0 dx dy zz cu zo zu)), (zz, .inl (cJ, 192, .inr (.inl za2))), (zx, .inl (cI, 4096, .inl xs)), (zy, .inl (cI, 4096, .inl ys)), (zf, .inl (cI, 4096, .inl fr)), (zt, .inl (cI, 4096, .inl to1)), (zw, .inl (cI, 4096, .inl wh))]) hP hD [2, 3, 4, 5, 6, 7, 8] [0, 1] rfl rfl (by decide) (by decide) hk1 hFc hP1 hD1
      clear hPc hDc hFc hP1 hD1 hK1 hk1 hz1 hvm ht
      generalize H1 = H at hP hS ⊢
      have hP : va_P g vwCl [(zk, .inl (cI, 2, .inl kn)), (zh, .inl (cZ, 2, .inl ha)), (ma, .inr (6, mo_ th zk zp za zb zx zy (nI ms.length) zf zt zw zm zh x0 y0 dx dy zz cu zo zu)), (zz, .inl (cJ, 192, .inr (.inl za2))), (zx, .inl (cI, 4096, .inl xs)), (zy, .inl (cI, 4096, .inl ys)), (zf, .inl (cI, 4096, .inl fr)), (zt, .inl (cI, 4096, .inl to1)), (zw, .inl (cI, 4096, .inl wh))] H := hP
      have hD : va_D A [(zk, .inl (cI, 2, .inl kn)), (zh, .inl (cZ, 2, .inl ha)), (ma, .inr (6, mo_ th zk zp za zb zx zy (nI ms.length) zf zt zw zm zh x0 y0 dx dy zz cu zo zu)), (zz, .inl (cJ, 192, .inr (.inl za2))), (zx, .inl (cI, 4096, .inl xs)), (zy, .inl (cI, 4096, .inl ys)), (zf, .inl (cI, 4096, .inl fr)), (zt, .inl (cI, 4096, .inl to1)), (zw, .inl (cI, 4096, .inl wh))] := hD
      obtain ⟨eza2, qza2⟩ := wza2
      subst eza2
      refine lv_goto (tgt := 30) hx hb dX6_beside_26 (by decide) ?_
      have eb : bsn_ xs ys x0 y0 dx dy nm dn ms sh ot = ms.countP (cF_ xs ys x0 y0 dx dy nm dn sh) % 2 + ms.countP (hF_ xs ys x0 y0 dx dy nm dn sh) := by unfold bsn_; rw [if_neg c2]
      have b3 : bsn_ xs ys x0 y0 dx dy nm dn ms sh ot < 9000 := by rw [eb]; omega
      refine lv_iadd hx hb dX6_beside_30 ?_
      refine tpi_ (y := (nI (bsn_ xs ys x0 y0 dx dy nm dn ms sh ot))) (by rw [eb]; exact (nI_add _ _).symm) ?_
      refine lv_istore_n (lv' := [(3, .int (nI (bsn_ xs ys x0 y0 dx dy nm dn ms sh ot))), (0, .ref ma), (1, .int (nI sh)), (2, .int ot)]) hx hb dX6_beside_31 rfl hl (by decide) rfl (fun ls hl => ?_)
      refine lv_iload_n hx hb dX6_beside_32 rfl (lv_at hl 0 rfl) ?_
      refine lv_iconst (v := 2) hx hb dX6_beside_33 (by decide) ?_
      refine lv_irem hx hb dX6_beside_34 (by decide) ?_
      refine tpi_ (y := (nI (bsn_ xs ys x0 y0 dx dy nm dn ms sh ot % 2))) ((pk_rem (d := 2) (by omega) (by decide) (by decide)).symm) ?_
      refine lv_iconst (v := 1) hx hb dX6_beside_35 (by decide) ?_
      refine lv_icmp_ne (tgt := 46) hx hb dX6_beside_36 (by decide) (fun c3 => ?_) (fun c3 => ?_)
      · have k3 : ¬ bsn_ xs ys x0 y0 dx dy nm dn ms sh ot % 2 = 1 := fun h => c3 (by rw [h]; rfl)
        have eh : bsh_ (kn sh) (bsn_ xs ys x0 y0 dx dy nm dn ms sh ot) sh ha = ha := by unfold bsh_; rw [if_neg c1, if_neg k3]
        refine lv_iload_n hx hb dX6_beside_46 rfl (lv_at hl 0 rfl) ?_
        refine lv_iconst (v := 2) hx hb dX6_beside_47 (by decide) ?_
        refine lv_irem hx hb dX6_beside_48 (by decide) ?_
        refine tpi_ (y := (nI (bsn_ xs ys x0 y0 dx dy nm dn ms sh ot % 2))) ((pk_rem (d := 2) (by omega) (by decide) (by decide)).symm) ?_
        refine lv_iconst (v := 1) hx hb dX6_beside_49 (by decide) ?_
        refine lv_icmp_ne (tgt := 57) hx hb dX6_beside_50 (by decide) (fun c4 => ?_) (fun c4 => ?_)
        · rw [← eh] at hP hD
          have hP : va_P g vwCl [(zk, .inl (cI, 2, .inl kn)), (zh, .inl (cZ, 2, .inl (bsh_ (kn sh) (bsn_ xs ys x0 y0 dx dy nm dn ms sh ot) sh ha))), (ma, .inr (6, mo_ th zk zp za zb zx zy (nI ms.length) zf zt zw zm zh x0 y0 dx dy zz cu zo zu)), (zz, .inl (cJ, 192, .inr (.inl za2))), (zx, .inl (cI, 4096, .inl xs)), (zy, .inl (cI, 4096, .inl ys)), (zf, .inl (cI, 4096, .inl fr)), (zt, .inl (cI, 4096, .inl to1)), (zw, .inl (cI, 4096, .inl wh))] H := hP
          have hD : va_D A [(zk, .inl (cI, 2, .inl kn)), (zh, .inl (cZ, 2, .inl (bsh_ (kn sh) (bsn_ xs ys x0 y0 dx dy nm dn ms sh ot) sh ha))), (ma, .inr (6, mo_ th zk zp za zb zx zy (nI ms.length) zf zt zw zm zh x0 y0 dx dy zz cu zo zu)), (zz, .inl (cJ, 192, .inr (.inl za2))), (zx, .inl (cI, 4096, .inl xs)), (zy, .inl (cI, 4096, .inl ys)), (zf, .inl (cI, 4096, .inl fr)), (zt, .inl (cI, 4096, .inl to1)), (zw, .inl (cI, 4096, .inl wh))] := hD
          refine lv_iconst (v := 2) hx hb dX6_beside_57 (by decide) ?_
          have hP9 := hP.sub (ws' := [(ma, .inr (6, mo_ th zk zp za zb zx zy (nI ms.length) zf zt zw zm zh x0 y0 dx dy zz cu zo zu)), (zz, .inl (cJ, 192, .inr (.inl za2))), (zx, .inl (cI, 4096, .inl xs)), (zy, .inl (cI, 4096, .inl ys)), (zf, .inl (cI, 4096, .inl fr)), (zt, .inl (cI, 4096, .inl to1)), (zw, .inl (cI, 4096, .inl wh)), (zk, .inl (cI, 2, .inl kn)), (zh, .inl (cZ, 2, .inl (bsh_ (kn sh) (bsn_ xs ys x0 y0 dx dy nm dn ms sh ot) sh ha)))]) [2, 3, 4, 5, 6, 7, 8, 0, 1] rfl
          have hD9 := hD.sub (ws' := [(ma, .inr (6, mo_ th zk zp za zb zx zy (nI ms.length) zf zt zw zm zh x0 y0 dx dy zz cu zo zu)), (zz, .inl (cJ, 192, .inr (.inl za2))), (zx, .inl (cI, 4096, .inl xs)), (zy, .inl (cI, 4096, .inl ys)), (zf, .inl (cI, 4096, .inl fr)), (zt, .inl (cI, 4096, .inl to1)), (zw, .inl (cI, 4096, .inl wh)), (zk, .inl (cI, 2, .inl kn)), (zh, .inl (cZ, 2, .inl (bsh_ (kn sh) (bsn_ xs ys x0 y0 dx dy nm dn ms sh ot) sh ha)))]) [2, 3, 4, 5, 6, 7, 8, 0, 1] (by decide) rfl
          exact W.iret (v := 2) hx hb hr (fun t ht hW => ⟨⟨2, za2, rfl, ⟨by unfold bsr_; rw [if_neg c1, if_neg k3], qza2⟩, by rw [ht]; exact hP9, va_K.moved hW.alike hK, hD9⟩, hS.F ht⟩) hS.2.2 dX6_beside_58
        · exact absurd c4 c3
      · have k3 : bsn_ xs ys x0 y0 dx dy nm dn ms sh ot % 2 = 1 := (nI_eq (b := 1) (by omega) (by decide)).mp c3
        have eh : bsh_ (kn sh) (bsn_ xs ys x0 y0 dx dy nm dn ms sh ot) sh ha = upd ha sh (vp_nar .boolean 1) := by unfold bsh_; rw [if_neg c1, if_pos k3, vz1_]
        refine lv_aload_n hx hb dX6_beside_39 rfl (lv_at hl 1 rfl) ?_
        refine va_get (D := g) (ci := 6) (v := .ref zh) (C := RX6) (T := TX6) (N := 21) hx hb hts hiX6 hown hK hP 2 rfl rfl 12 (by decide) (hts (.fieldLink RX6 40 "ShapeRelatorModel" "hasArea" "[Z") (List.mem_of_getElem? (i := 2) rfl)) (fun _ h9 => h9) rfl dX6_beside_40 ?_
        refine lv_iload_n hx hb dX6_beside_43 rfl (lv_at hl 2 rfl) ?_
        refine lv_iconst (v := 1) hx hb dX6_beside_44 (by decide) ?_
        refine va_zast (D := g) hx hb hK hP hD hS 1 2 rfl rfl (vp_in_nI (show sh < 2 by omega) (by decide)) dX6_beside_45 (fun H locs hP hD hS => ?_)
        rw [nI_clamp (show sh < 2 ^ 31 by omega)] at hP hD
        have hP : va_P g vwCl [(zk, .inl (cI, 2, .inl kn)), (zh, .inl (cZ, 2, .inl (upd ha sh (vp_nar .boolean 1)))), (ma, .inr (6, mo_ th zk zp za zb zx zy (nI ms.length) zf zt zw zm zh x0 y0 dx dy zz cu zo zu)), (zz, .inl (cJ, 192, .inr (.inl za2))), (zx, .inl (cI, 4096, .inl xs)), (zy, .inl (cI, 4096, .inl ys)), (zf, .inl (cI, 4096, .inl fr)), (zt, .inl (cI, 4096, .inl to1)), (zw, .inl (cI, 4096, .inl wh))] H := hP
        have hD : va_D A [(zk, .inl (cI, 2, .inl kn)), (zh, .inl (cZ, 2, .inl (upd ha sh (vp_nar .boolean 1)))), (ma, .inr (6, mo_ th zk zp za zb zx zy (nI ms.length) zf zt zw zm zh x0 y0 dx dy zz cu zo zu)), (zz, .inl (cJ, 192, .inr (.inl za2))), (zx, .inl (cI, 4096, .inl xs)), (zy, .inl (cI, 4096, .inl ys)), (zf, .inl (cI, 4096, .inl fr)), (zt, .inl (cI, 4096, .inl to1)), (zw, .inl (cI, 4096, .inl wh))] := hD
        refine lv_iload_n hx hb dX6_beside_46 rfl (lv_at hl 0 rfl) ?_
        refine lv_iconst (v := 2) hx hb dX6_beside_47 (by decide) ?_
        refine lv_irem hx hb dX6_beside_48 (by decide) ?_
        refine tpi_ (y := (nI (bsn_ xs ys x0 y0 dx dy nm dn ms sh ot % 2))) ((pk_rem (d := 2) (by omega) (by decide) (by decide)).symm) ?_
        refine lv_iconst (v := 1) hx hb dX6_beside_49 (by decide) ?_
        refine lv_icmp_ne (tgt := 57) hx hb dX6_beside_50 (by decide) (fun c4 => ?_) (fun c4 => ?_)
        · exact absurd c3 c4
        · rw [← eh] at hP hD
          have hP : va_P g vwCl [(zk, .inl (cI, 2, .inl kn)), (zh, .inl (cZ, 2, .inl (bsh_ (kn sh) (bsn_ xs ys x0 y0 dx dy nm dn ms sh ot) sh ha))), (ma, .inr (6, mo_ th zk zp za zb zx zy (nI ms.length) zf zt zw zm zh x0 y0 dx dy zz cu zo zu)), (zz, .inl (cJ, 192, .inr (.inl za2))), (zx, .inl (cI, 4096, .inl xs)), (zy, .inl (cI, 4096, .inl ys)), (zf, .inl (cI, 4096, .inl fr)), (zt, .inl (cI, 4096, .inl to1)), (zw, .inl (cI, 4096, .inl wh))] H := hP
          have hD : va_D A [(zk, .inl (cI, 2, .inl kn)), (zh, .inl (cZ, 2, .inl (bsh_ (kn sh) (bsn_ xs ys x0 y0 dx dy nm dn ms sh ot) sh ha))), (ma, .inr (6, mo_ th zk zp za zb zx zy (nI ms.length) zf zt zw zm zh x0 y0 dx dy zz cu zo zu)), (zz, .inl (cJ, 192, .inr (.inl za2))), (zx, .inl (cI, 4096, .inl xs)), (zy, .inl (cI, 4096, .inl ys)), (zf, .inl (cI, 4096, .inl fr)), (zt, .inl (cI, 4096, .inl to1)), (zw, .inl (cI, 4096, .inl wh))] := hD
          refine lv_iconst (v := 0) hx hb dX6_beside_53 (by decide) ?_
          refine lv_goto (tgt := 58) hx hb dX6_beside_54 (by decide) ?_
          have hP9 := hP.sub (ws' := [(ma, .inr (6, mo_ th zk zp za zb zx zy (nI ms.length) zf zt zw zm zh x0 y0 dx dy zz cu zo zu)), (zz, .inl (cJ, 192, .inr (.inl za2))), (zx, .inl (cI, 4096, .inl xs)), (zy, .inl (cI, 4096, .inl ys)), (zf, .inl (cI, 4096, .inl fr)), (zt, .inl (cI, 4096, .inl to1)), (zw, .inl (cI, 4096, .inl wh)), (zk, .inl (cI, 2, .inl kn)), (zh, .inl (cZ, 2, .inl (bsh_ (kn sh) (bsn_ xs ys x0 y0 dx dy nm dn ms sh ot) sh ha)))]) [2, 3, 4, 5, 6, 7, 8, 0, 1] rfl
          have hD9 := hD.sub (ws' := [(ma, .inr (6, mo_ th zk zp za zb zx zy (nI ms.length) zf zt zw zm zh x0 y0 dx dy zz cu zo zu)), (zz, .inl (cJ, 192, .inr (.inl za2))), (zx, .inl (cI, 4096, .inl xs)), (zy, .inl (cI, 4096, .inl ys)), (zf, .inl (cI, 4096, .inl fr)), (zt, .inl (cI, 4096, .inl to1)), (zw, .inl (cI, 4096, .inl wh)), (zk, .inl (cI, 2, .inl kn)), (zh, .inl (cZ, 2, .inl (bsh_ (kn sh) (bsn_ xs ys x0 y0 dx dy nm dn ms sh ot) sh ha)))]) [2, 3, 4, 5, 6, 7, 8, 0, 1] (by decide) rfl
          exact W.iret (v := 0) hx hb hr (fun t ht hW => ⟨⟨0, za2, rfl, ⟨by unfold bsr_; rw [if_neg c1, if_pos k3], qza2⟩, by rw [ht]; exact hP9, va_K.moved hW.alike hK, hD9⟩, hS.F ht⟩) hS.2.2 dX6_beside_58
  · have c1 := Int32.not_le.mp c1
    have eh : bsh_ (kn sh) (bsn_ xs ys x0 y0 dx dy nm dn ms sh ot) sh ha = ha := by unfold bsh_; rw [if_pos c1]
    rw [← eh] at hP hD
    have hP : va_P g vwCl [(ma, .inr (6, mo_ th zk zp za zb zx zy (nI ms.length) zf zt zw zm zh x0 y0 dx dy zz cu zo zu)), (zz, .inl (cJ, 192, .inr (.inl z))), (zx, .inl (cI, 4096, .inl xs)), (zy, .inl (cI, 4096, .inl ys)), (zf, .inl (cI, 4096, .inl fr)), (zt, .inl (cI, 4096, .inl to1)), (zw, .inl (cI, 4096, .inl wh)), (zk, .inl (cI, 2, .inl kn)), (zh, .inl (cZ, 2, .inl (bsh_ (kn sh) (bsn_ xs ys x0 y0 dx dy nm dn ms sh ot) sh ha)))] s.heap := hP
    have hD : va_D A [(ma, .inr (6, mo_ th zk zp za zb zx zy (nI ms.length) zf zt zw zm zh x0 y0 dx dy zz cu zo zu)), (zz, .inl (cJ, 192, .inr (.inl z))), (zx, .inl (cI, 4096, .inl xs)), (zy, .inl (cI, 4096, .inl ys)), (zf, .inl (cI, 4096, .inl fr)), (zt, .inl (cI, 4096, .inl to1)), (zw, .inl (cI, 4096, .inl wh)), (zk, .inl (cI, 2, .inl kn)), (zh, .inl (cZ, 2, .inl (bsh_ (kn sh) (bsn_ xs ys x0 y0 dx dy nm dn ms sh ot) sh ha)))] := hD
    refine lv_iconst (v := 2) hx hb dX6_beside_10 (by decide) ?_
    have hP9 := hP.sub (ws' := [(ma, .inr (6, mo_ th zk zp za zb zx zy (nI ms.length) zf zt zw zm zh x0 y0 dx dy zz cu zo zu)), (zz, .inl (cJ, 192, .inr (.inl z))), (zx, .inl (cI, 4096, .inl xs)), (zy, .inl (cI, 4096, .inl ys)), (zf, .inl (cI, 4096, .inl fr)), (zt, .inl (cI, 4096, .inl to1)), (zw, .inl (cI, 4096, .inl wh)), (zk, .inl (cI, 2, .inl kn)), (zh, .inl (cZ, 2, .inl (bsh_ (kn sh) (bsn_ xs ys x0 y0 dx dy nm dn ms sh ot) sh ha)))]) [0, 1, 2, 3, 4, 5, 6, 7, 8] rfl
    have hD9 := hD.sub (ws' := [(ma, .inr (6, mo_ th zk zp za zb zx zy (nI ms.length) zf zt zw zm zh x0 y0 dx dy zz cu zo zu)), (zz, .inl (cJ, 192, .inr (.inl z))), (zx, .inl (cI, 4096, .inl xs)), (zy, .inl (cI, 4096, .inl ys)), (zf, .inl (cI, 4096, .inl fr)), (zt, .inl (cI, 4096, .inl to1)), (zw, .inl (cI, 4096, .inl wh)), (zk, .inl (cI, 2, .inl kn)), (zh, .inl (cZ, 2, .inl (bsh_ (kn sh) (bsn_ xs ys x0 y0 dx dy nm dn ms sh ot) sh ha)))]) [0, 1, 2, 3, 4, 5, 6, 7, 8] (by decide) rfl
    exact W.iret (v := 2) hx hb hr (fun t ht hW => ⟨⟨2, z, rfl, ⟨by unfold bsr_; rw [if_pos c1], hq⟩, by rw [ht]; exact hP9, va_K.moved hW.alike hK, hD9⟩, hS.F ht⟩) hS.2.2 dX6_beside_11
end
