section
theorem ikX6_relate_X6 : ∀ w ∈ wsX60, w ∈ wsX6_relate := by decide +kernel
set_option maxHeartbeats 1000000 in
set_option maxRecDepth 100000 in
theorem kX6_relate (l : Launch) (g : va_G) (cI cJ cZ : ClassId) (sz : Nat) (ma : Nat) (th : Int32) (sn : Int32) (x0 : Int64) (y0 : Int64) (dx : Int64) (dy : Int64) (cu : Int32) (zk : Nat) (zp : Nat) (za : Nat) (zb : Nat) (zx : Nat) (zy : Nat) (zf : Nat) (zt : Nat) (zw : Nat) (zm : Nat) (zh : Nat) (zz : Nat) (zo : Nat) (zu : Nat) (ov : Nat → Int64) (un : Nat → Int64) (z : Nat → Int64) (kn : Nat → Int32) (pt : Nat → Int32) (pa : Nat → Int32) (bg : Nat → Int32) (xs : Nat → Int32) (ys : Nat → Int32) (fr : Nat → Int32) (to1 : Nat → Int32) (wh : Nat → Int32) (mx : Nat → Int32) (ha : Nat → Int32) (PT : Nat → Nat) (PA : Nat → Nat) (SN : Nat → Nat → Nat) (hst : mst_ pt pa bg PT PA SN) (hmo : ∀ s, s < 2 → mon_ (SN s) (PA s) (PT s)) : Met l yX6_relate wsX6_relate ({ frames := 9, cells := 0, slots := 0, locals := 214 }) (pc_ g cI cJ cZ [.ref ma] [(ma, .inr (6, mo_ th zk zp za zb zx zy sn zf zt zw zm zh x0 y0 dx dy zz cu zo zu)), (zo, .inl (cJ, 12400, .inr (.inl ov))), (zu, .inl (cJ, 12400, .inr (.inl un))), (zz, .inl (cJ, 192, .inr (.inl z))), (zk, .inl (cI, 2, .inl kn)), (zp, .inl (cI, 2, .inl pt)), (za, .inl (cI, 2, .inl pa)), (zb, .inl (cI, 2050, .inl bg)), (zx, .inl (cI, 4096, .inl xs)), (zy, .inl (cI, 4096, .inl ys)), (zf, .inl (cI, 4096, .inl fr)), (zt, .inl (cI, 4096, .inl to1)), (zw, .inl (cI, 4096, .inl wh)), (zm, .inl (cI, 9, .inl mx)), (zh, .inl (cZ, 2, .inl ha))] sz) (va_Qi (fun (r : Int32) (th2 : Int32) => th2 = 0 ∧ r = rel_ (lkM_ kn xs ys SN PA PT mx) 9) (fun (th2 : Int32) t => ∃ (sn9 : Int32) (x9 : Int64) (y9 : Int64) (d9 : Int64) (f9 : Int64) (cu9 : Int32) (fr9 : Nat → Int32) (to9 : Nat → Int32) (wh9 : Nat → Int32) (mx9 : Nat → Int32) (ha9 : Nat → Int32) (z9 : Nat → Int64) (ov9 : Nat → Int64) (un9 : Nat → Int64), wd_ g cI cJ cZ (va_A [(ma, .inr (6, mo_ th zk zp za zb zx zy sn zf zt zw zm zh x0 y0 dx dy zz cu zo zu)), (zo, .inl (cJ, 12400, .inr (.inl ov))), (zu, .inl (cJ, 12400, .inr (.inl un))), (zz, .inl (cJ, 192, .inr (.inl z))), (zk, .inl (cI, 2, .inl kn)), (zp, .inl (cI, 2, .inl pt)), (za, .inl (cI, 2, .inl pa)), (zb, .inl (cI, 2050, .inl bg)), (zx, .inl (cI, 4096, .inl xs)), (zy, .inl (cI, 4096, .inl ys)), (zf, .inl (cI, 4096, .inl fr)), (zt, .inl (cI, 4096, .inl to1)), (zw, .inl (cI, 4096, .inl wh)), (zm, .inl (cI, 9, .inl mx)), (zh, .inl (cZ, 2, .inl ha))] sz) [(ma, .inr (6, mo_ th2 zk zp za zb zx zy sn9 zf zt zw zm zh x9 y9 d9 f9 zz cu9 zo zu)), (zo, .inl (cJ, 12400, .inr (.inl ov9))), (zu, .inl (cJ, 12400, .inr (.inl un9))), (zz, .inl (cJ, 192, .inr (.inl z9))), (zk, .inl (cI, 2, .inl kn)), (zp, .inl (cI, 2, .inl pt)), (za, .inl (cI, 2, .inl pa)), (zb, .inl (cI, 2050, .inl bg)), (zx, .inl (cI, 4096, .inl xs)), (zy, .inl (cI, 4096, .inl ys)), (zf, .inl (cI, 4096, .inl fr9)), (zt, .inl (cI, 4096, .inl to9)), (zw, .inl (cI, 4096, .inl wh9)), (zm, .inl (cI, 9, .inl mx9)), (zh, .inl (cZ, 2, .inl ha9))] t) (va_A [(ma, .inr (6, mo_ th zk zp za zb zx zy sn zf zt zw zm zh x0 y0 dx dy zz cu zo zu)), (zo, .inl (cJ, 12400, .inr (.inl ov))), (zu, .inl (cJ, 12400, .inr (.inl un))), (zz, .inl (cJ, 192, .inr (.inl z))), (zk, .inl (cI, 2, .inl kn)), (zp, .inl (cI, 2, .inl pt)), (za, .inl (cI, 2, .inl pa)), (zb, .inl (cI, 2050, .inl bg)), (zx, .inl (cI, 4096, .inl xs)), (zy, .inl (cI, 4096, .inl ys)), (zf, .inl (cI, 4096, .inl fr)), (zt, .inl (cI, 4096, .inl to1)), (zw, .inl (cI, 4096, .inl wh)), (zm, .inl (cI, 9, .inl mx)), (zh, .inl (cZ, 2, .inl ha))] sz)) (0) (0) (va_A [(ma, .inr (6, mo_ th zk zp za zb zx zy sn zf zt zw zm zh x0 y0 dx dy zz cu zo zu)), (zo, .inl (cJ, 12400, .inr (.inl ov))), (zu, .inl (cJ, 12400, .inr (.inl un))), (zz, .inl (cJ, 192, .inr (.inl z))), (zk, .inl (cI, 2, .inl kn)), (zp, .inl (cI, 2, .inl pt)), (za, .inl (cI, 2, .inl pa)), (zb, .inl (cI, 2050, .inl bg)), (zx, .inl (cI, 4096, .inl xs)), (zy, .inl (cI, 4096, .inl ys)), (zf, .inl (cI, 4096, .inl fr)), (zt, .inl (cI, 4096, .inl to1)), (zw, .inl (cI, 4096, .inl wh)), (zm, .inl (cI, 9, .inl mx)), (zh, .inl (cZ, 2, .inl ha))] sz) := by
  refine Met.ofW (cc := cX6_relate) (maxL := 3) (ret := (some .int)) (by decide) rfl ?_
  intro p e s m args below meth c s₁ B hml hv
  obtain ⟨rfl, hsz, hP, hK, hD0⟩ := hv
  have hx := B.exec
  have hb := B.bytes
  have hr := B.returns
  have hts := atoms_spec (ws := wsX6_relate) B.pre
  have hown : s.vm.findClass RX6 = some m.cls := findClass_of_methodNamed B.named
  have hlocks := B.notSynchronized
  subst hsz
  have hD := hD0.self (sz := s.heap.size)
  generalize hAe : va_A [(ma, .inr (6, mo_ th zk zp za zb zx zy sn zf zt zw zm zh x0 y0 dx dy zz cu zo zu)), (zo, .inl (cJ, 12400, .inr (.inl ov))), (zu, .inl (cJ, 12400, .inr (.inl un))), (zz, .inl (cJ, 192, .inr (.inl z))), (zk, .inl (cI, 2, .inl kn)), (zp, .inl (cI, 2, .inl pt)), (za, .inl (cI, 2, .inl pa)), (zb, .inl (cI, 2050, .inl bg)), (zx, .inl (cI, 4096, .inl xs)), (zy, .inl (cI, 4096, .inl ys)), (zf, .inl (cI, 4096, .inl fr)), (zt, .inl (cI, 4096, .inl to1)), (zw, .inl (cI, 4096, .inl wh)), (zm, .inl (cI, 9, .inl mx)), (zh, .inl (cZ, 2, .inl ha))] s.heap.size = A at hD ⊢
  have hA : ∀ q : Nat, s.heap.size ≤ q → A q := fun q h => by rw [← hAe]; exact Or.inr h
  have hS : va_S A s.heap s.heap [] := va_S.rf
  have hP : va_P g vwCl [(ma, .inr (6, mo_ th zk zp za zb zx zy sn zf zt zw zm zh x0 y0 dx dy zz cu zo zu)), (zo, .inl (cJ, 12400, .inr (.inl ov))), (zu, .inl (cJ, 12400, .inr (.inl un))), (zz, .inl (cJ, 192, .inr (.inl z))), (zk, .inl (cI, 2, .inl kn)), (zp, .inl (cI, 2, .inl pt)), (za, .inl (cI, 2, .inl pa)), (zb, .inl (cI, 2050, .inl bg)), (zx, .inl (cI, 4096, .inl xs)), (zy, .inl (cI, 4096, .inl ys)), (zf, .inl (cI, 4096, .inl fr)), (zt, .inl (cI, 4096, .inl to1)), (zw, .inl (cI, 4096, .inl wh)), (zm, .inl (cI, 9, .inl mx)), (zh, .inl (cZ, 2, .inl ha))] s.heap := hP
  have hl := lv_entry ([.ref ma]) (n := 3) (Nat.le_of_ble_eq_true rfl)
  rw [lg_entry_eq]
  generalize (lg_sl ([.ref ma]) ++ List.replicate (3 - (lg_sl ([.ref ma])).length) Slot.unset).toArray = ls at hl ⊢
  have hl : lv_has ls 3 [(0, .ref ma)] := hl
  have hH0 : s.heap = s.heap := rfl
  have hiX6 := ikX6_relate_X6
  refine lv_aload_n hx hb dX6_relate_0 rfl (lv_at hl 0 rfl) ?_
  refine lv_iconst (v := 0) hx hb dX6_relate_1 (by decide) ?_
  refine va_put (D := g) (ci := 6) (v := .int 0) (ty := .int) (C := RX6) (T := TX6) (N := 21) hx hb hts hiX6 tyX6 tyX6_ok nmX6 hown hK hP hD hS 0 rfl rfl 0 (by decide) (hts (.fieldLink RX6 54 "ShapeRelatorModel" "thrown" "I") (List.mem_of_getElem? (i := 1) rfl)) (fun _ h9 => h9) rfl (by decide +kernel) rfl rfl (Nat.le_of_ble_eq_true rfl) dX6_relate_2 (fun H locs hP hD hS => ?_)
  have hP : va_P g vwCl [(ma, .inr (6, mo_ 0 zk zp za zb zx zy sn zf zt zw zm zh x0 y0 dx dy zz cu zo zu)), (zo, .inl (cJ, 12400, .inr (.inl ov))), (zu, .inl (cJ, 12400, .inr (.inl un))), (zz, .inl (cJ, 192, .inr (.inl z))), (zk, .inl (cI, 2, .inl kn)), (zp, .inl (cI, 2, .inl pt)), (za, .inl (cI, 2, .inl pa)), (zb, .inl (cI, 2050, .inl bg)), (zx, .inl (cI, 4096, .inl xs)), (zy, .inl (cI, 4096, .inl ys)), (zf, .inl (cI, 4096, .inl fr)), (zt, .inl (cI, 4096, .inl to1)), (zw, .inl (cI, 4096, .inl wh)), (zm, .inl (cI, 9, .inl mx)), (zh, .inl (cZ, 2, .inl ha))] H := hP
  have hD : va_D A [(ma, .inr (6, mo_ 0 zk zp za zb zx zy sn zf zt zw zm zh x0 y0 dx dy zz cu zo zu)), (zo, .inl (cJ, 12400, .inr (.inl ov))), (zu, .inl (cJ, 12400, .inr (.inl un))), (zz, .inl (cJ, 192, .inr (.inl z))), (zk, .inl (cI, 2, .inl kn)), (zp, .inl (cI, 2, .inl pt)), (za, .inl (cI, 2, .inl pa)), (zb, .inl (cI, 2050, .inl bg)), (zx, .inl (cI, 4096, .inl xs)), (zy, .inl (cI, 4096, .inl ys)), (zf, .inl (cI, 4096, .inl fr)), (zt, .inl (cI, 4096, .inl to1)), (zw, .inl (cI, 4096, .inl wh)), (zm, .inl (cI, 9, .inl mx)), (zh, .inl (cZ, 2, .inl ha))] := hD
  refine lv_aload_n hx hb dX6_relate_5 rfl (lv_at hl 0 rfl) ?_
  have hPc := hP.sub (ws' := [(ma, .inr (6, mo_ 0 zk zp za zb zx zy sn zf zt zw zm zh x0 y0 dx dy zz cu zo zu)), (zo, .inl (cJ, 12400, .inr (.inl ov))), (zu, .inl (cJ, 12400, .inr (.inl un))), (zz, .inl (cJ, 192, .inr (.inl z))), (zk, .inl (cI, 2, .inl kn)), (zp, .inl (cI, 2, .inl pt)), (za, .inl (cI, 2, .inl pa)), (zb, .inl (cI, 2050, .inl bg)), (zx, .inl (cI, 4096, .inl xs)), (zy, .inl (cI, 4096, .inl ys)), (zf, .inl (cI, 4096, .inl fr)), (zt, .inl (cI, 4096, .inl to1)), (zw, .inl (cI, 4096, .inl wh)), (zm, .inl (cI, 9, .inl mx)), (zh, .inl (cZ, 2, .inl ha))]) [0, 1, 2, 3, 4, 5, 6, 7, 8, 9, 10, 11, 12, 13, 14] rfl
  have hDc := hD.sub (ws' := [(ma, .inr (6, mo_ 0 zk zp za zb zx zy sn zf zt zw zm zh x0 y0 dx dy zz cu zo zu)), (zo, .inl (cJ, 12400, .inr (.inl ov))), (zu, .inl (cJ, 12400, .inr (.inl un))), (zz, .inl (cJ, 192, .inr (.inl z))), (zk, .inl (cI, 2, .inl kn)), (zp, .inl (cI, 2, .inl pt)), (za, .inl (cI, 2, .inl pa)), (zb, .inl (cI, 2050, .inl bg)), (zx, .inl (cI, 4096, .inl xs)), (zy, .inl (cI, 4096, .inl ys)), (zf, .inl (cI, 4096, .inl fr)), (zt, .inl (cI, 4096, .inl to1)), (zw, .inl (cI, 4096, .inl wh)), (zm, .inl (cI, 9, .inl mx)), (zh, .inl (cZ, 2, .inl ha))]) [0, 1, 2, 3, 4, 5, 6, 7, 8, 9, 10, 11, 12, 13, 14] (by decide) rfl
  have hFc := va_free (wc := [(ma, .inr (6, mo_ 0 zk zp za zb zx zy sn zf zt zw zm zh x0 y0 dx dy zz cu zo zu)), (zo, .inl (cJ, 12400, .inr (.inl ov))), (zu, .inl (cJ, 12400, .inr (.inl un))), (zz, .inl (cJ, 192, .inr (.inl z))), (zk, .inl (cI, 2, .inl kn)), (zp, .inl (cI, 2, .inl pt)), (za, .inl (cI, 2, .inl pa)), (zb, .inl (cI, 2050, .inl bg)), (zx, .inl (cI, 4096, .inl xs)), (zy, .inl (cI, 4096, .inl ys)), (zf, .inl (cI, 4096, .inl fr)), (zt, .inl (cI, 4096, .inl to1)), (zw, .inl (cI, 4096, .inl wh)), (zm, .inl (cI, 9, .inl mx)), (zh, .inl (cZ, 2, .inl ha))]) hD hS hA [0, 1, 2, 3, 4, 5, 6, 7, 8, 9, 10, 11, 12, 13, 14] rfl
  refine va_callv (va_runV (As := []) (rest := []) ⟨hx, hb, hml, hown, hts⟩ (kX6_look l g cI cJ cZ H.size ma 0 sn x0 y0 dx dy cu zk zp za zb zx zy zf zt zw zm zh zz zo zu ov un z kn pt pa bg xs ys fr to1 wh mx ha PT PA SN hst hmo) (cwV 0 hts gX6_relate_X6_look rfl rfl rfl (by decide +kernel) ⟨Nat.le_of_ble_eq_true rfl, Nat.le_of_ble_eq_true rfl⟩) (pv_ hK hPc hDc (va_recv hK hPc (ci := 6) (q0 := 0) rfl rfl)) rfl rfl hl.1 rfl (lv_room (Nat.le_of_ble_eq_true rfl)) dX6_relate_6 ⟨Nat.zero_le _, Nat.zero_le _⟩) hS (fun q _ h => hFc q h) hFc (fun u t H1 locs ht hvm hm3 hB hz1 hk1 hS => ?_)
  obtain ⟨fA, tA, wA, oA, uA, zA⟩ := u
  obtain ⟨xB, yB, dB, fB, cB, hP1, hK1, hD1⟩ := hB
  rw [ht] at hP1
  dsimp only at hm3
  obtain ⟨hP, hD⟩ := va_join (wr := []) (w1 := [(ma, .inr (6, mo_ 0 zk zp za zb zx zy (nI (gat_ kn xs ys SN PA PT).length) zf zt zw zm zh xB yB dB fB zz cB zo zu)), (zo, .inl (cJ, 12400, .inr (.inl oA))), (zu, .inl (cJ, 12400, .inr (.inl uA))), (zz, .inl (cJ, 192, .inr (.inl zA))), (zk, .inl (cI, 2, .inl kn)), (zp, .inl (cI, 2, .inl pt)), (za, .inl (cI, 2, .inl pa)), (zb, .inl (cI, 2050, .inl bg)), (zx, .inl (cI, 4096, .inl xs)), (zy, .inl (cI, 4096, .inl ys)), (zf, .inl (cI, 4096, .inl fA)), (zt, .inl (cI, 4096, .inl tA)), (zw, .inl (cI, 4096, .inl wA)), (zm, .inl (cI, 9, .inl (lkM_ kn xs ys SN PA PT mx))), (zh, .inl (cZ, 2, .inl (lkH_ kn xs ys SN PA PT ha)))]) hP hD [0, 1, 2, 3, 4, 5, 6, 7, 8, 9, 10, 11, 12, 13, 14] [] rfl rfl (by decide) (by decide) hk1 hFc hP1 hD1
  clear hPc hDc hFc hP1 hD1 hK1 hk1 hz1 hvm ht
  generalize H1 = H at hP hS ⊢
  have hP : va_P g vwCl [(ma, .inr (6, mo_ 0 zk zp za zb zx zy (nI (gat_ kn xs ys SN PA PT).length) zf zt zw zm zh xB yB dB fB zz cB zo zu)), (zo, .inl (cJ, 12400, .inr (.inl oA))), (zu, .inl (cJ, 12400, .inr (.inl uA))), (zz, .inl (cJ, 192, .inr (.inl zA))), (zk, .inl (cI, 2, .inl kn)), (zp, .inl (cI, 2, .inl pt)), (za, .inl (cI, 2, .inl pa)), (zb, .inl (cI, 2050, .inl bg)), (zx, .inl (cI, 4096, .inl xs)), (zy, .inl (cI, 4096, .inl ys)), (zf, .inl (cI, 4096, .inl fA)), (zt, .inl (cI, 4096, .inl tA)), (zw, .inl (cI, 4096, .inl wA)), (zm, .inl (cI, 9, .inl (lkM_ kn xs ys SN PA PT mx))), (zh, .inl (cZ, 2, .inl (lkH_ kn xs ys SN PA PT ha)))] H := hP
  have hD : va_D A [(ma, .inr (6, mo_ 0 zk zp za zb zx zy (nI (gat_ kn xs ys SN PA PT).length) zf zt zw zm zh xB yB dB fB zz cB zo zu)), (zo, .inl (cJ, 12400, .inr (.inl oA))), (zu, .inl (cJ, 12400, .inr (.inl uA))), (zz, .inl (cJ, 192, .inr (.inl zA))), (zk, .inl (cI, 2, .inl kn)), (zp, .inl (cI, 2, .inl pt)), (za, .inl (cI, 2, .inl pa)), (zb, .inl (cI, 2050, .inl bg)), (zx, .inl (cI, 4096, .inl xs)), (zy, .inl (cI, 4096, .inl ys)), (zf, .inl (cI, 4096, .inl fA)), (zt, .inl (cI, 4096, .inl tA)), (zw, .inl (cI, 4096, .inl wA)), (zm, .inl (cI, 9, .inl (lkM_ kn xs ys SN PA PT mx))), (zh, .inl (cZ, 2, .inl (lkH_ kn xs ys SN PA PT ha)))] := hD
  refine lv_iconst (v := 0) hx hb dX6_relate_9 (by decide) ?_
  refine lv_istore_n (lv' := [(1, .int 0), (0, .ref ma)]) hx hb dX6_relate_10 rfl hl (by decide) rfl (fun ls hl => ?_)
  refine lv_iconst (v := 0) hx hb dX6_relate_11 (by decide) ?_
  refine lv_istore_n (lv' := [(2, .int 0), (1, .int 0), (0, .ref ma)]) hx hb dX6_relate_12 rfl hl (by decide) rfl (fun ls hl => ?_)
  refine lpW (σ := Nat) (fun k => 9 - k) (fun k => 0) (fun k => 0) (fun k H locs ls => (k ≤ 9) ∧ va_P g vwCl [(ma, .inr (6, mo_ 0 zk zp za zb zx zy (nI (gat_ kn xs ys SN PA PT).length) zf zt zw zm zh xB yB dB fB zz cB zo zu)), (zo, .inl (cJ, 12400, .inr (.inl oA))), (zu, .inl (cJ, 12400, .inr (.inl uA))), (zz, .inl (cJ, 192, .inr (.inl zA))), (zk, .inl (cI, 2, .inl kn)), (zp, .inl (cI, 2, .inl pt)), (za, .inl (cI, 2, .inl pa)), (zb, .inl (cI, 2050, .inl bg)), (zx, .inl (cI, 4096, .inl xs)), (zy, .inl (cI, 4096, .inl ys)), (zf, .inl (cI, 4096, .inl fA)), (zt, .inl (cI, 4096, .inl tA)), (zw, .inl (cI, 4096, .inl wA)), (zm, .inl (cI, 9, .inl (lkM_ kn xs ys SN PA PT mx))), (zh, .inl (cZ, 2, .inl (lkH_ kn xs ys SN PA PT ha)))] H ∧ va_D A [(ma, .inr (6, mo_ 0 zk zp za zb zx zy (nI (gat_ kn xs ys SN PA PT).length) zf zt zw zm zh xB yB dB fB zz cB zo zu)), (zo, .inl (cJ, 12400, .inr (.inl oA))), (zu, .inl (cJ, 12400, .inr (.inl uA))), (zz, .inl (cJ, 192, .inr (.inl zA))), (zk, .inl (cI, 2, .inl kn)), (zp, .inl (cI, 2, .inl pt)), (za, .inl (cI, 2, .inl pa)), (zb, .inl (cI, 2050, .inl bg)), (zx, .inl (cI, 4096, .inl xs)), (zy, .inl (cI, 4096, .inl ys)), (zf, .inl (cI, 4096, .inl fA)), (zt, .inl (cI, 4096, .inl tA)), (zw, .inl (cI, 4096, .inl wA)), (zm, .inl (cI, 9, .inl (lkM_ kn xs ys SN PA PT mx))), (zh, .inl (cZ, 2, .inl (lkH_ kn xs ys SN PA PT ha)))] ∧ va_S A s.heap H locs ∧ lv_has ls 3 [(2, .int (nI k)), (1, .int (rel_ (lkM_ kn xs ys SN PA PT mx) k)), (0, .ref ma)]) (fun x ih H locs ls hI => ?_) 0 rfl rfl ⟨Nat.zero_le _, hP, hD, hS, (lv_sub hl [0, 1, 2] rfl)⟩
  obtain ⟨k, rfl⟩ : ∃ z, z = x := ⟨_, rfl⟩
  obtain ⟨hi, hP, hD, hS, hl⟩ := hI
  have hP : va_P g vwCl [(ma, .inr (6, mo_ 0 zk zp za zb zx zy (nI (gat_ kn xs ys SN PA PT).length) zf zt zw zm zh xB yB dB fB zz cB zo zu)), (zo, .inl (cJ, 12400, .inr (.inl oA))), (zu, .inl (cJ, 12400, .inr (.inl uA))), (zz, .inl (cJ, 192, .inr (.inl zA))), (zk, .inl (cI, 2, .inl kn)), (zp, .inl (cI, 2, .inl pt)), (za, .inl (cI, 2, .inl pa)), (zb, .inl (cI, 2050, .inl bg)), (zx, .inl (cI, 4096, .inl xs)), (zy, .inl (cI, 4096, .inl ys)), (zf, .inl (cI, 4096, .inl fA)), (zt, .inl (cI, 4096, .inl tA)), (zw, .inl (cI, 4096, .inl wA)), (zm, .inl (cI, 9, .inl (lkM_ kn xs ys SN PA PT mx))), (zh, .inl (cZ, 2, .inl (lkH_ kn xs ys SN PA PT ha)))] H := hP
  have hD : va_D A [(ma, .inr (6, mo_ 0 zk zp za zb zx zy (nI (gat_ kn xs ys SN PA PT).length) zf zt zw zm zh xB yB dB fB zz cB zo zu)), (zo, .inl (cJ, 12400, .inr (.inl oA))), (zu, .inl (cJ, 12400, .inr (.inl uA))), (zz, .inl (cJ, 192, .inr (.inl zA))), (zk, .inl (cI, 2, .inl kn)), (zp, .inl (cI, 2, .inl pt)), (za, .inl (cI, 2, .inl pa)), (zb, .inl (cI, 2050, .inl bg)), (zx, .inl (cI, 4096, .inl xs)), (zy, .inl (cI, 4096, .inl ys)), (zf, .inl (cI, 4096, .inl fA)), (zt, .inl (cI, 4096, .inl tA)), (zw, .inl (cI, 4096, .inl wA)), (zm, .inl (cI, 9, .inl (lkM_ kn xs ys SN PA PT mx))), (zh, .inl (cZ, 2, .inl (lkH_ kn xs ys SN PA PT ha)))] := hD
  have hl : lv_has ls 3 [(2, .int (nI k)), (1, .int (rel_ (lkM_ kn xs ys SN PA PT mx) k)), (0, .ref ma)] := hl
  refine lv_iload_n hx hb dX6_relate_13 rfl (lv_at hl 0 rfl) ?_
  refine lv_bipush (v := 9) hx hb dX6_relate_14 (by decide) ?_
  refine lv_icmp_ge (tgt := 38) hx hb dX6_relate_16 (by decide) (fun c1 => ?_) (fun c1 => ?_)
  · have e1 : k = 9 := by have := i_ge (b := 9) c1 (by omega) (by omega); omega
    refine lv_iload_n hx hb dX6_relate_38 rfl (lv_at hl 1 rfl) ?_
    have hP9 := hP.sub (ws' := [(ma, .inr (6, mo_ 0 zk zp za zb zx zy (nI (gat_ kn xs ys SN PA PT).length) zf zt zw zm zh xB yB dB fB zz cB zo zu)), (zo, .inl (cJ, 12400, .inr (.inl oA))), (zu, .inl (cJ, 12400, .inr (.inl uA))), (zz, .inl (cJ, 192, .inr (.inl zA))), (zk, .inl (cI, 2, .inl kn)), (zp, .inl (cI, 2, .inl pt)), (za, .inl (cI, 2, .inl pa)), (zb, .inl (cI, 2050, .inl bg)), (zx, .inl (cI, 4096, .inl xs)), (zy, .inl (cI, 4096, .inl ys)), (zf, .inl (cI, 4096, .inl fA)), (zt, .inl (cI, 4096, .inl tA)), (zw, .inl (cI, 4096, .inl wA)), (zm, .inl (cI, 9, .inl (lkM_ kn xs ys SN PA PT mx))), (zh, .inl (cZ, 2, .inl (lkH_ kn xs ys SN PA PT ha)))]) [0, 1, 2, 3, 4, 5, 6, 7, 8, 9, 10, 11, 12, 13, 14] rfl
    have hD9 := hD.sub (ws' := [(ma, .inr (6, mo_ 0 zk zp za zb zx zy (nI (gat_ kn xs ys SN PA PT).length) zf zt zw zm zh xB yB dB fB zz cB zo zu)), (zo, .inl (cJ, 12400, .inr (.inl oA))), (zu, .inl (cJ, 12400, .inr (.inl uA))), (zz, .inl (cJ, 192, .inr (.inl zA))), (zk, .inl (cI, 2, .inl kn)), (zp, .inl (cI, 2, .inl pt)), (za, .inl (cI, 2, .inl pa)), (zb, .inl (cI, 2050, .inl bg)), (zx, .inl (cI, 4096, .inl xs)), (zy, .inl (cI, 4096, .inl ys)), (zf, .inl (cI, 4096, .inl fA)), (zt, .inl (cI, 4096, .inl tA)), (zw, .inl (cI, 4096, .inl wA)), (zm, .inl (cI, 9, .inl (lkM_ kn xs ys SN PA PT mx))), (zh, .inl (cZ, 2, .inl (lkH_ kn xs ys SN PA PT ha)))]) [0, 1, 2, 3, 4, 5, 6, 7, 8, 9, 10, 11, 12, 13, 14] (by decide) rfl
    exact W.iret (v := (rel_ (lkM_ kn xs ys SN PA PT mx) k)) hx hb hr (fun t ht hW => ⟨⟨rel_ (lkM_ kn xs ys SN PA PT mx) k, 0, rfl, ⟨rfl, by rw [e1]⟩, nI (gat_ kn xs ys SN PA PT).length, xB, yB, dB, fB, cB, fA, tA, wA, lkM_ kn xs ys SN PA PT mx, lkH_ kn xs ys SN PA PT ha, zA, oA, uA, by rw [ht]; exact hP9, va_K.moved hW.alike hK, hD9⟩, hS.F ht⟩) hS.2.2 dX6_relate_39
  · have e1 : k < 9 := i_nge (b := 9) c1 (by omega) (by omega)
    refine lv_iconst (v := 4) hx hb dX6_relate_19 (by decide) ?_
    refine lv_iload_n hx hb dX6_relate_20 rfl (lv_at hl 1 rfl) ?_
    refine lv_imul hx hb dX6_relate_21 ?_
    refine lv_aload_n hx hb dX6_relate_22 rfl (lv_at hl 2 rfl) ?_
    refine va_get (D := g) (ci := 6) (v := .ref zm) (C := RX6) (T := TX6) (N := 21) hx hb hts hiX6 hown hK hP 0 rfl rfl 11 (by decide) (hts (.fieldLink RX6 37 "ShapeRelatorModel" "matrix" "[I") (List.mem_of_getElem? (i := 2) rfl)) (fun _ h9 => h9) rfl dX6_relate_23 ?_
    refine lv_iload_n hx hb dX6_relate_26 rfl (lv_at hl 0 rfl) ?_
    refine va_iald (D := g) hx hb hK hP 13 0 rfl rfl (vp_in_nI (show k < 9 by omega) (by omega)) dX6_relate_27 ?_
    refine tpi_ (y := ((lkM_ kn xs ys SN PA PT mx) k)) (by rw [nI_clamp (by omega)]) ?_
    refine lv_iadd hx hb dX6_relate_28 ?_
    refine lv_iconst (v := 1) hx hb dX6_relate_29 (by decide) ?_
    refine lv_iadd hx hb dX6_relate_30 ?_
    refine tpi_ (y := (rel_ (lkM_ kn xs ys SN PA PT mx) (k + 1))) rfl ?_
    refine lv_istore_n (lv' := [(1, .int (rel_ (lkM_ kn xs ys SN PA PT mx) (k + 1))), (2, .int (nI k)), (0, .ref ma)]) hx hb dX6_relate_31 rfl hl (by decide) rfl (fun ls hl => ?_)
    refine lv_iinc (v := (nI (k + 1))) (lv' := [(2, .int (nI (k + 1))), (1, .int (rel_ (lkM_ kn xs ys SN PA PT mx) (k + 1))), (0, .ref ma)]) hx hb dX6_relate_32 hl (k := 1) rfl (nI_1 k) (by decide) rfl (fun ls hl => ?_)
    refine lv_goto (tgt := 13) hx hb dX6_relate_35 (by decide) ?_
    exact ih (k + 1) (by show 9 - (k + 1) < 9 - k; omega) H locs ls ⟨e1, hP, hD, hS, (lv_sub hl [0, 1, 2] rfl)⟩

theorem ikX6_entry_X6 : ∀ w ∈ wsX60, w ∈ wsX6_entry := by decide +kernel
set_option maxHeartbeats 1000000 in
set_option maxRecDepth 100000 in
theorem kX6_entry (l : Launch) (g : va_G) (cI cJ cZ : ClassId) (sz : Nat) (ma : Nat) (th : Int32) (sn : Int32) (x0 : Int64) (y0 : Int64) (dx : Int64) (dy : Int64) (cu : Int32) (zk : Nat) (zp : Nat) (za : Nat) (zb : Nat) (zx : Nat) (zy : Nat) (zf : Nat) (zt : Nat) (zw : Nat) (zm : Nat) (zh : Nat) (zz : Nat) (zo : Nat) (zu : Nat) (ov : Nat → Int64) (un : Nat → Int64) (z : Nat → Int64) (kn : Nat → Int32) (pt : Nat → Int32) (pa : Nat → Int32) (bg : Nat → Int32) (xs : Nat → Int32) (ys : Nat → Int32) (fr : Nat → Int32) (to1 : Nat → Int32) (wh : Nat → Int32) (mx : Nat → Int32) (ha : Nat → Int32) (PT : Nat → Nat) (PA : Nat → Nat) (SN : Nat → Nat → Nat) (o1 : Int32) (o2 : Int32) (hst : mst_ pt pa bg PT PA SN) (hmo : ∀ s, s < 2 → mon_ (SN s) (PA s) (PT s)) : Met l yX6_entry wsX6_entry ({ frames := 9, cells := 0, slots := 0, locals := 214 }) (pc_ g cI cJ cZ [.ref ma, .int o1, .int o2] [(ma, .inr (6, mo_ th zk zp za zb zx zy sn zf zt zw zm zh x0 y0 dx dy zz cu zo zu)), (zo, .inl (cJ, 12400, .inr (.inl ov))), (zu, .inl (cJ, 12400, .inr (.inl un))), (zz, .inl (cJ, 192, .inr (.inl z))), (zk, .inl (cI, 2, .inl kn)), (zp, .inl (cI, 2, .inl pt)), (za, .inl (cI, 2, .inl pa)), (zb, .inl (cI, 2050, .inl bg)), (zx, .inl (cI, 4096, .inl xs)), (zy, .inl (cI, 4096, .inl ys)), (zf, .inl (cI, 4096, .inl fr)), (zt, .inl (cI, 4096, .inl to1)), (zw, .inl (cI, 4096, .inl wh)), (zm, .inl (cI, 9, .inl mx)), (zh, .inl (cZ, 2, .inl ha))] sz) (va_Qi (fun (r : Int32) (th2 : Int32) => ((wi_ o1 0 2 = 0 ∨ wi_ o2 0 2 = 0) → th2 = 1) ∧ (¬ (wi_ o1 0 2 = 0 ∨ wi_ o2 0 2 = 0) → th2 = 0 ∧ r = mat_ (lkM_ kn xs ys SN PA PT mx) o1 o2)) (fun (th2 : Int32) t => ∃ (sn9 : Int32) (x9 : Int64) (y9 : Int64) (d9 : Int64) (f9 : Int64) (cu9 : Int32) (fr9 : Nat → Int32) (to9 : Nat → Int32) (wh9 : Nat → Int32) (mx9 : Nat → Int32) (ha9 : Nat → Int32) (z9 : Nat → Int64) (ov9 : Nat → Int64) (un9 : Nat → Int64), wd_ g cI cJ cZ (va_A [(ma, .inr (6, mo_ th zk zp za zb zx zy sn zf zt zw zm zh x0 y0 dx dy zz cu zo zu)), (zo, .inl (cJ, 12400, .inr (.inl ov))), (zu, .inl (cJ, 12400, .inr (.inl un))), (zz, .inl (cJ, 192, .inr (.inl z))), (zk, .inl (cI, 2, .inl kn)), (zp, .inl (cI, 2, .inl pt)), (za, .inl (cI, 2, .inl pa)), (zb, .inl (cI, 2050, .inl bg)), (zx, .inl (cI, 4096, .inl xs)), (zy, .inl (cI, 4096, .inl ys)), (zf, .inl (cI, 4096, .inl fr)), (zt, .inl (cI, 4096, .inl to1)), (zw, .inl (cI, 4096, .inl wh)), (zm, .inl (cI, 9, .inl mx)), (zh, .inl (cZ, 2, .inl ha))] sz) [(ma, .inr (6, mo_ th2 zk zp za zb zx zy sn9 zf zt zw zm zh x9 y9 d9 f9 zz cu9 zo zu)), (zo, .inl (cJ, 12400, .inr (.inl ov9))), (zu, .inl (cJ, 12400, .inr (.inl un9))), (zz, .inl (cJ, 192, .inr (.inl z9))), (zk, .inl (cI, 2, .inl kn)), (zp, .inl (cI, 2, .inl pt)), (za, .inl (cI, 2, .inl pa)), (zb, .inl (cI, 2050, .inl bg)), (zx, .inl (cI, 4096, .inl xs)), (zy, .inl (cI, 4096, .inl ys)), (zf, .inl (cI, 4096, .inl fr9)), (zt, .inl (cI, 4096, .inl to9)), (zw, .inl (cI, 4096, .inl wh9)), (zm, .inl (cI, 9, .inl mx9)), (zh, .inl (cZ, 2, .inl ha9))] t) (va_A [(ma, .inr (6, mo_ th zk zp za zb zx zy sn zf zt zw zm zh x0 y0 dx dy zz cu zo zu)), (zo, .inl (cJ, 12400, .inr (.inl ov))), (zu, .inl (cJ, 12400, .inr (.inl un))), (zz, .inl (cJ, 192, .inr (.inl z))), (zk, .inl (cI, 2, .inl kn)), (zp, .inl (cI, 2, .inl pt)), (za, .inl (cI, 2, .inl pa)), (zb, .inl (cI, 2050, .inl bg)), (zx, .inl (cI, 4096, .inl xs)), (zy, .inl (cI, 4096, .inl ys)), (zf, .inl (cI, 4096, .inl fr)), (zt, .inl (cI, 4096, .inl to1)), (zw, .inl (cI, 4096, .inl wh)), (zm, .inl (cI, 9, .inl mx)), (zh, .inl (cZ, 2, .inl ha))] sz)) (0) (0) (va_A [(ma, .inr (6, mo_ th zk zp za zb zx zy sn zf zt zw zm zh x0 y0 dx dy zz cu zo zu)), (zo, .inl (cJ, 12400, .inr (.inl ov))), (zu, .inl (cJ, 12400, .inr (.inl un))), (zz, .inl (cJ, 192, .inr (.inl z))), (zk, .inl (cI, 2, .inl kn)), (zp, .inl (cI, 2, .inl pt)), (za, .inl (cI, 2, .inl pa)), (zb, .inl (cI, 2050, .inl bg)), (zx, .inl (cI, 4096, .inl xs)), (zy, .inl (cI, 4096, .inl ys)), (zf, .inl (cI, 4096, .inl fr)), (zt, .inl (cI, 4096, .inl to1)), (zw, .inl (cI, 4096, .inl wh)), (zm, .inl (cI, 9, .inl mx)), (zh, .inl (cZ, 2, .inl ha))] sz) := by
  refine Met.ofW (cc := cX6_entry) (maxL := 3) (ret := (some .int)) (by decide) rfl ?_
  intro p e s m args below meth c s₁ B hml hv
  obtain ⟨rfl, hsz, hP, hK, hD0⟩ := hv
  have hx := B.exec
  have hb := B.bytes
  have hr := B.returns
  have hts := atoms_spec (ws := wsX6_entry) B.pre
  have hown : s.vm.findClass RX6 = some m.cls := findClass_of_methodNamed B.named
  have hlocks := B.notSynchronized
  subst hsz
  have hD := hD0.self (sz := s.heap.size)
  generalize hAe : va_A [(ma, .inr (6, mo_ th zk zp za zb zx zy sn zf zt zw zm zh x0 y0 dx dy zz cu zo zu)), (zo, .inl (cJ, 12400, .inr (.inl ov))), (zu, .inl (cJ, 12400, .inr (.inl un))), (zz, .inl (cJ, 192, .inr (.inl z))), (zk, .inl (cI, 2, .inl kn)), (zp, .inl (cI, 2, .inl pt)), (za, .inl (cI, 2, .inl pa)), (zb, .inl (cI, 2050, .inl bg)), (zx, .inl (cI, 4096, .inl xs)), (zy, .inl (cI, 4096, .inl ys)), (zf, .inl (cI, 4096, .inl fr)), (zt, .inl (cI, 4096, .inl to1)), (zw, .inl (cI, 4096, .inl wh)), (zm, .inl (cI, 9, .inl mx)), (zh, .inl (cZ, 2, .inl ha))] s.heap.size = A at hD ⊢
  have hA : ∀ q : Nat, s.heap.size ≤ q → A q := fun q h => by rw [← hAe]; exact Or.inr h
  have hS : va_S A s.heap s.heap [] := va_S.rf
  have hP : va_P g vwCl [(ma, .inr (6, mo_ th zk zp za zb zx zy sn zf zt zw zm zh x0 y0 dx dy zz cu zo zu)), (zo, .inl (cJ, 12400, .inr (.inl ov))), (zu, .inl (cJ, 12400, .inr (.inl un))), (zz, .inl (cJ, 192, .inr (.inl z))), (zk, .inl (cI, 2, .inl kn)), (zp, .inl (cI, 2, .inl pt)), (za, .inl (cI, 2, .inl pa)), (zb, .inl (cI, 2050, .inl bg)), (zx, .inl (cI, 4096, .inl xs)), (zy, .inl (cI, 4096, .inl ys)), (zf, .inl (cI, 4096, .inl fr)), (zt, .inl (cI, 4096, .inl to1)), (zw, .inl (cI, 4096, .inl wh)), (zm, .inl (cI, 9, .inl mx)), (zh, .inl (cZ, 2, .inl ha))] s.heap := hP
  have hl := lv_entry ([.ref ma, .int o1, .int o2]) (n := 3) (Nat.le_of_ble_eq_true rfl)
  rw [lg_entry_eq]
  generalize (lg_sl ([.ref ma, .int o1, .int o2]) ++ List.replicate (3 - (lg_sl ([.ref ma, .int o1, .int o2])).length) Slot.unset).toArray = ls at hl ⊢
  have hl : lv_has ls 3 [(0, .ref ma), (1, .int o1), (2, .int o2)] := hl
  have hH0 : s.heap = s.heap := rfl
  have hiX6 := ikX6_entry_X6
  refine lv_aload_n hx hb dX6_entry_0 rfl (lv_at hl 0 rfl) ?_
  refine lv_iconst (v := 0) hx hb dX6_entry_1 (by decide) ?_
  refine va_put (D := g) (ci := 6) (v := .int 0) (ty := .int) (C := RX6) (T := TX6) (N := 21) hx hb hts hiX6 tyX6 tyX6_ok nmX6 hown hK hP hD hS 0 rfl rfl 0 (by decide) (hts (.fieldLink RX6 54 "ShapeRelatorModel" "thrown" "I") (List.mem_of_getElem? (i := 1) rfl)) (fun _ h9 => h9) rfl (by decide +kernel) rfl rfl (Nat.le_of_ble_eq_true rfl) dX6_entry_2 (fun H locs hP hD hS => ?_)
  have hP : va_P g vwCl [(ma, .inr (6, mo_ 0 zk zp za zb zx zy sn zf zt zw zm zh x0 y0 dx dy zz cu zo zu)), (zo, .inl (cJ, 12400, .inr (.inl ov))), (zu, .inl (cJ, 12400, .inr (.inl un))), (zz, .inl (cJ, 192, .inr (.inl z))), (zk, .inl (cI, 2, .inl kn)), (zp, .inl (cI, 2, .inl pt)), (za, .inl (cI, 2, .inl pa)), (zb, .inl (cI, 2050, .inl bg)), (zx, .inl (cI, 4096, .inl xs)), (zy, .inl (cI, 4096, .inl ys)), (zf, .inl (cI, 4096, .inl fr)), (zt, .inl (cI, 4096, .inl to1)), (zw, .inl (cI, 4096, .inl wh)), (zm, .inl (cI, 9, .inl mx)), (zh, .inl (cZ, 2, .inl ha))] H := hP
  have hD : va_D A [(ma, .inr (6, mo_ 0 zk zp za zb zx zy sn zf zt zw zm zh x0 y0 dx dy zz cu zo zu)), (zo, .inl (cJ, 12400, .inr (.inl ov))), (zu, .inl (cJ, 12400, .inr (.inl un))), (zz, .inl (cJ, 192, .inr (.inl z))), (zk, .inl (cI, 2, .inl kn)), (zp, .inl (cI, 2, .inl pt)), (za, .inl (cI, 2, .inl pa)), (zb, .inl (cI, 2050, .inl bg)), (zx, .inl (cI, 4096, .inl xs)), (zy, .inl (cI, 4096, .inl ys)), (zf, .inl (cI, 4096, .inl fr)), (zt, .inl (cI, 4096, .inl to1)), (zw, .inl (cI, 4096, .inl wh)), (zm, .inl (cI, 9, .inl mx)), (zh, .inl (cZ, 2, .inl ha))] := hD
  refine lv_iload_n hx hb dX6_entry_5 rfl (lv_at hl 1 rfl) ?_
  refine lv_iconst (v := 0) hx hb dX6_entry_6 (by decide) ?_
  refine lv_iconst (v := 2) hx hb dX6_entry_7 (by decide) ?_
  have hPc := hP.sub (ws' := []) [] rfl
  have hDc := hD.sub (ws' := []) [] (by decide) rfl
  have hFc := va_free (wc := []) hD hS hA [] rfl
  refine va_calli (va_runS (As := [.int o1, .int 0, .int 2]) (rest := []) ⟨hx, hb, hml, hown, hts⟩ (kX6_within l g cI cJ cZ H.size o1 0 2) (va_cwS 3 hts gX6_entry_X6_within rfl rfl rfl (by decide +kernel) ⟨Nat.le_of_ble_eq_true rfl, Nat.le_of_ble_eq_true rfl⟩) (ps_ hK hPc hDc) rfl rfl hl.1 rfl (lv_room (Nat.le_of_ble_eq_true rfl)) dX6_entry_8 ⟨Nat.zero_le _, Nat.zero_le _⟩) hS (fun q _ h => hFc q h) hFc (fun r1 u t H1 locs ht hvm hw1 hB hz1 hk1 hS => ?_)
  obtain ⟨hP1, hK1, hD1⟩ := hB
  rw [ht] at hP1
  obtain ⟨hP, hD⟩ := va_join (wr := [(ma, .inr (6, mo_ 0 zk zp za zb zx zy sn zf zt zw zm zh x0 y0 dx dy zz cu zo zu)), (zo, .inl (cJ, 12400, .inr (.inl ov))), (zu, .inl (cJ, 12400, .inr (.inl un))), (zz, .inl (cJ, 192, .inr (.inl z))), (zk, .inl (cI, 2, .inl kn)), (zp, .inl (cI, 2, .inl pt)), (za, .inl (cI, 2, .inl pa)), (zb, .inl (cI, 2050, .inl bg)), (zx, .inl (cI, 4096, .inl xs)), (zy, .inl (cI, 4096, .inl ys)), (zf, .inl (cI, 4096, .inl fr)), (zt, .inl (cI, 4096, .inl to1)), (zw, .inl (cI, 4096, .inl wh)), (zm, .inl (cI, 9, .inl mx)), (zh, .inl (cZ, 2, .inl ha))]) (w1 := []) hP hD [] [0, 1, 2, 3, 4, 5, 6, 7, 8, 9, 10, 11, 12, 13, 14] rfl rfl (by decide) (by decide) hk1 hFc hP1 hD1
  clear hPc hDc hFc hP1 hD1 hK1 hk1 hz1 hvm ht
  generalize H1 = H at hP hS ⊢
  have hP : va_P g vwCl [(ma, .inr (6, mo_ 0 zk zp za zb zx zy sn zf zt zw zm zh x0 y0 dx dy zz cu zo zu)), (zo, .inl (cJ, 12400, .inr (.inl ov))), (zu, .inl (cJ, 12400, .inr (.inl un))), (zz, .inl (cJ, 192, .inr (.inl z))), (zk, .inl (cI, 2, .inl kn)), (zp, .inl (cI, 2, .inl pt)), (za, .inl (cI, 2, .inl pa)), (zb, .inl (cI, 2050, .inl bg)), (zx, .inl (cI, 4096, .inl xs)), (zy, .inl (cI, 4096, .inl ys)), (zf, .inl (cI, 4096, .inl fr)), (zt, .inl (cI, 4096, .inl to1)), (zw, .inl (cI, 4096, .inl wh)), (zm, .inl (cI, 9, .inl mx)), (zh, .inl (cZ, 2, .inl ha))] H := hP
  have hD : va_D A [(ma, .inr (6, mo_ 0 zk zp za zb zx zy sn zf zt zw zm zh x0 y0 dx dy zz cu zo zu)), (zo, .inl (cJ, 12400, .inr (.inl ov))), (zu, .inl (cJ, 12400, .inr (.inl un))), (zz, .inl (cJ, 192, .inr (.inl z))), (zk, .inl (cI, 2, .inl kn)), (zp, .inl (cI, 2, .inl pt)), (za, .inl (cI, 2, .inl pa)), (zb, .inl (cI, 2050, .inl bg)), (zx, .inl (cI, 4096, .inl xs)), (zy, .inl (cI, 4096, .inl ys)), (zf, .inl (cI, 4096, .inl fr)), (zt, .inl (cI, 4096, .inl to1)), (zw, .inl (cI, 4096, .inl wh)), (zm, .inl (cI, 9, .inl mx)), (zh, .inl (cZ, 2, .inl ha))] := hD
  refine lv_if_eq (tgt := 23) hx hb dX6_entry_11 (by decide) (fun c1 => ?_) (fun c1 => ?_)
  · refine lv_aload_n hx hb dX6_entry_23 rfl (lv_at hl 0 rfl) ?_
    refine lv_iconst (v := 1) hx hb dX6_entry_24 (by decide) ?_
    have hPc := hP.sub (ws' := [(ma, .inr (6, mo_ 0 zk zp za zb zx zy sn zf zt zw zm zh x0 y0 dx dy zz cu zo zu))]) [0] rfl
    have hDc := hD.sub (ws' := [(ma, .inr (6, mo_ 0 zk zp za zb zx zy sn zf zt zw zm zh x0 y0 dx dy zz cu zo zu))]) [0] (by decide) rfl
    have hFc := va_free (wc := [(ma, .inr (6, mo_ 0 zk zp za zb zx zy sn zf zt zw zm zh x0 y0 dx dy zz cu zo zu))]) hD hS hA [0] rfl
    refine va_calli (va_runV (As := [.int 1]) (rest := []) ⟨hx, hb, hml, hown, hts⟩ (kX6_fail l g cI cJ cZ H.size ma 0 sn x0 y0 dx dy cu zk zp za zb zx zy zf zt zw zm zh zz zo zu 1) (cwV 1 hts gX6_entry_X6_fail rfl rfl rfl (by decide +kernel) ⟨Nat.le_of_ble_eq_true rfl, Nat.le_of_ble_eq_true rfl⟩) (pv_ hK hPc hDc (va_recv hK hPc (ci := 6) (q0 := 0) rfl rfl)) rfl rfl hl.1 rfl (lv_room (Nat.le_of_ble_eq_true rfl)) dX6_entry_25 ⟨Nat.zero_le _, Nat.zero_le _⟩) hS (fun q _ h => hFc q h) hFc (fun rf u t H1 locs ht hvm hwf hB hz1 hk1 hS => ?_)
    obtain ⟨hP1, hK1, hD1⟩ := hB
    rw [ht] at hP1
    obtain ⟨hP, hD⟩ := va_join (wr := [(zo, .inl (cJ, 12400, .inr (.inl ov))), (zu, .inl (cJ, 12400, .inr (.inl un))), (zz, .inl (cJ, 192, .inr (.inl z))), (zk, .inl (cI, 2, .inl kn)), (zp, .inl (cI, 2, .inl pt)), (za, .inl (cI, 2, .inl pa)), (zb, .inl (cI, 2050, .inl bg)), (zx, .inl (cI, 4096, .inl xs)), (zy, .inl (cI, 4096, .inl ys)), (zf, .inl (cI, 4096, .inl fr)), (zt, .inl (cI, 4096, .inl to1)), (zw, .inl (cI, 4096, .inl wh)), (zm, .inl (cI, 9, .inl mx)), (zh, .inl (cZ, 2, .inl ha))]) (w1 := [(ma, .inr (6, mo_ 1 zk zp za zb zx zy sn zf zt zw zm zh x0 y0 dx dy zz cu zo zu))]) hP hD [0] [1, 2, 3, 4, 5, 6, 7, 8, 9, 10, 11, 12, 13, 14] rfl rfl (by decide) (by decide) hk1 hFc hP1 hD1
    clear hPc hDc hFc hP1 hD1 hK1 hk1 hz1 hvm ht
    generalize H1 = H at hP hS ⊢
    have hP : va_P g vwCl [(zo, .inl (cJ, 12400, .inr (.inl ov))), (zu, .inl (cJ, 12400, .inr (.inl un))), (zz, .inl (cJ, 192, .inr (.inl z))), (zk, .inl (cI, 2, .inl kn)), (zp, .inl (cI, 2, .inl pt)), (za, .inl (cI, 2, .inl pa)), (zb, .inl (cI, 2050, .inl bg)), (zx, .inl (cI, 4096, .inl xs)), (zy, .inl (cI, 4096, .inl ys)), (zf, .inl (cI, 4096, .inl fr)), (zt, .inl (cI, 4096, .inl to1)), (zw, .inl (cI, 4096, .inl wh)), (zm, .inl (cI, 9, .inl mx)), (zh, .inl (cZ, 2, .inl ha)), (ma, .inr (6, mo_ 1 zk zp za zb zx zy sn zf zt zw zm zh x0 y0 dx dy zz cu zo zu))] H := hP
    have hD : va_D A [(zo, .inl (cJ, 12400, .inr (.inl ov))), (zu, .inl (cJ, 12400, .inr (.inl un))), (zz, .inl (cJ, 192, .inr (.inl z))), (zk, .inl (cI, 2, .inl kn)), (zp, .inl (cI, 2, .inl pt)), (za, .inl (cI, 2, .inl pa)), (zb, .inl (cI, 2050, .inl bg)), (zx, .inl (cI, 4096, .inl xs)), (zy, .inl (cI, 4096, .inl ys)), (zf, .inl (cI, 4096, .inl fr)), (zt, .inl (cI, 4096, .inl to1)), (zw, .inl (cI, 4096, .inl wh)), (zm, .inl (cI, 9, .inl mx)), (zh, .inl (cZ, 2, .inl ha)), (ma, .inr (6, mo_ 1 zk zp za zb zx zy sn zf zt zw zm zh x0 y0 dx dy zz cu zo zu))] := hD
    have hP9 := hP.sub (ws' := [(ma, .inr (6, mo_ 1 zk zp za zb zx zy sn zf zt zw zm zh x0 y0 dx dy zz cu zo zu)), (zo, .inl (cJ, 12400, .inr (.inl ov))), (zu, .inl (cJ, 12400, .inr (.inl un))), (zz, .inl (cJ, 192, .inr (.inl z))), (zk, .inl (cI, 2, .inl kn)), (zp, .inl (cI, 2, .inl pt)), (za, .inl (cI, 2, .inl pa)), (zb, .inl (cI, 2050, .inl bg)), (zx, .inl (cI, 4096, .inl xs)), (zy, .inl (cI, 4096, .inl ys)), (zf, .inl (cI, 4096, .inl fr)), (zt, .inl (cI, 4096, .inl to1)), (zw, .inl (cI, 4096, .inl wh)), (zm, .inl (cI, 9, .inl mx)), (zh, .inl (cZ, 2, .inl ha))]) [14, 0, 1, 2, 3, 4, 5, 6, 7, 8, 9, 10, 11, 12, 13] rfl
    have hD9 := hD.sub (ws' := [(ma, .inr (6, mo_ 1 zk zp za zb zx zy sn zf zt zw zm zh x0 y0 dx dy zz cu zo zu)), (zo, .inl (cJ, 12400, .inr (.inl ov))), (zu, .inl (cJ, 12400, .inr (.inl un))), (zz, .inl (cJ, 192, .inr (.inl z))), (zk, .inl (cI, 2, .inl kn)), (zp, .inl (cI, 2, .inl pt)), (za, .inl (cI, 2, .inl pa)), (zb, .inl (cI, 2050, .inl bg)), (zx, .inl (cI, 4096, .inl xs)), (zy, .inl (cI, 4096, .inl ys)), (zf, .inl (cI, 4096, .inl fr)), (zt, .inl (cI, 4096, .inl to1)), (zw, .inl (cI, 4096, .inl wh)), (zm, .inl (cI, 9, .inl mx)), (zh, .inl (cZ, 2, .inl ha))]) [14, 0, 1, 2, 3, 4, 5, 6, 7, 8, 9, 10, 11, 12, 13] (by decide) rfl
    exact W.iret (v := rf) hx hb hr (fun t ht hW => ⟨⟨rf, 1, rfl, ⟨fun _ => rfl, fun h => absurd (Or.inl (hw1.symm.trans c1)) h⟩, sn, x0, y0, dx, dy, cu, fr, to1, wh, mx, ha, z, ov, un, by rw [ht]; exact hP9, va_K.moved hW.alike hK, hD9⟩, hS.F ht⟩) hS.2.2 dX6_entry_28
  · refine lv_iload_n hx hb dX6_entry_14 rfl (lv_at hl 2 rfl) ?_
    refine lv_iconst (v := 0) hx hb dX6_entry_15 (by decide) ?_
    refine lv_iconst (v := 2) hx hb dX6_entry_16 (by decide) ?_
    have hPc := hP.sub (ws' := []) [] rfl
    have hDc := hD.sub (ws' := []) [] (by decide) rfl
    have hFc := va_free (wc := []) hD hS hA [] rfl
    refine va_calli (va_runS (As := [.int o2, .int 0, .int 2]) (rest := []) ⟨hx, hb, hml, hown, hts⟩ (kX6_within l g cI cJ cZ H.size o2 0 2) (va_cwS 3 hts gX6_entry_X6_within rfl rfl rfl (by decide +kernel) ⟨Nat.le_of_ble_eq_true rfl, Nat.le_of_ble_eq_true rfl⟩) (ps_ hK hPc hDc) rfl rfl hl.1 rfl (lv_room (Nat.le_of_ble_eq_true rfl)) dX6_entry_17 ⟨Nat.zero_le _, Nat.zero_le _⟩) hS (fun q _ h => hFc q h) hFc (fun r2 u t H1 locs ht hvm hw2 hB hz1 hk1 hS => ?_)
    obtain ⟨hP1, hK1, hD1⟩ := hB
    rw [ht] at hP1
    obtain ⟨hP, hD⟩ := va_join (wr := [(ma, .inr (6, mo_ 0 zk zp za zb zx zy sn zf zt zw zm zh x0 y0 dx dy zz cu zo zu)), (zo, .inl (cJ, 12400, .inr (.inl ov))), (zu, .inl (cJ, 12400, .inr (.inl un))), (zz, .inl (cJ, 192, .inr (.inl z))), (zk, .inl (cI, 2, .inl kn)), (zp, .inl (cI, 2, .inl pt)), (za, .inl (cI, 2, .inl pa)), (zb, .inl (cI, 2050, .inl bg)), (zx, .inl (cI, 4096, .inl xs)), (zy, .inl (cI, 4096, .inl ys)), (zf, .inl (cI, 4096, .inl fr)), (zt, .inl (cI, 4096, .inl to1)), (zw, .inl (cI, 4096, .inl wh)), (zm, .inl (cI, 9, .inl mx)), (zh, .inl (cZ, 2, .inl ha))]) (w1 := []) hP hD [] [0, 1, 2, 3, 4, 5, 6, 7, 8, 9, 10, 11, 12, 13, 14] rfl rfl (by decide) (by decide) hk1 hFc hP1 hD1
    clear hPc hDc hFc hP1 hD1 hK1 hk1 hz1 hvm ht
    generalize H1 = H at hP hS ⊢
    have hP : va_P g vwCl [(ma, .inr (6, mo_ 0 zk zp za zb zx zy sn zf zt zw zm zh x0 y0 dx dy zz cu zo zu)), (zo, .inl (cJ, 12400, .inr (.inl ov))), (zu, .inl (cJ, 12400, .inr (.inl un))), (zz, .inl (cJ, 192, .inr (.inl z))), (zk, .inl (cI, 2, .inl kn)), (zp, .inl (cI, 2, .inl pt)), (za, .inl (cI, 2, .inl pa)), (zb, .inl (cI, 2050, .inl bg)), (zx, .inl (cI, 4096, .inl xs)), (zy, .inl (cI, 4096, .inl ys)), (zf, .inl (cI, 4096, .inl fr)), (zt, .inl (cI, 4096, .inl to1)), (zw, .inl (cI, 4096, .inl wh)), (zm, .inl (cI, 9, .inl mx)), (zh, .inl (cZ, 2, .inl ha))] H := hP
    have hD : va_D A [(ma, .inr (6, mo_ 0 zk zp za zb zx zy sn zf zt zw zm zh x0 y0 dx dy zz cu zo zu)), (zo, .inl (cJ, 12400, .inr (.inl ov))), (zu, .inl (cJ, 12400, .inr (.inl un))), (zz, .inl (cJ, 192, .inr (.inl z))), (zk, .inl (cI, 2, .inl kn)), (zp, .inl (cI, 2, .inl pt)), (za, .inl (cI, 2, .inl pa)), (zb, .inl (cI, 2050, .inl bg)), (zx, .inl (cI, 4096, .inl xs)), (zy, .inl (cI, 4096, .inl ys)), (zf, .inl (cI, 4096, .inl fr)), (zt, .inl (cI, 4096, .inl to1)), (zw, .inl (cI, 4096, .inl wh)), (zm, .inl (cI, 9, .inl mx)), (zh, .inl (cZ, 2, .inl ha))] := hD
    refine lv_if_ne (tgt := 29) hx hb dX6_entry_20 (by decide) (fun c2 => ?_) (fun c2 => ?_)
    · have n1 : ¬ wi_ o1 0 2 = 0 := fun h => c1 (hw1.trans h)
      have n2 : ¬ wi_ o2 0 2 = 0 := fun h => c2 (hw2.trans h)
      refine lv_aload_n hx hb dX6_entry_29 rfl (lv_at hl 0 rfl) ?_
      have hPc := hP.sub (ws' := [(ma, .inr (6, mo_ 0 zk zp za zb zx zy sn zf zt zw zm zh x0 y0 dx dy zz cu zo zu)), (zo, .inl (cJ, 12400, .inr (.inl ov))), (zu, .inl (cJ, 12400, .inr (.inl un))), (zz, .inl (cJ, 192, .inr (.inl z))), (zk, .inl (cI, 2, .inl kn)), (zp, .inl (cI, 2, .inl pt)), (za, .inl (cI, 2, .inl pa)), (zb, .inl (cI, 2050, .inl bg)), (zx, .inl (cI, 4096, .inl xs)), (zy, .inl (cI, 4096, .inl ys)), (zf, .inl (cI, 4096, .inl fr)), (zt, .inl (cI, 4096, .inl to1)), (zw, .inl (cI, 4096, .inl wh)), (zm, .inl (cI, 9, .inl mx)), (zh, .inl (cZ, 2, .inl ha))]) [0, 1, 2, 3, 4, 5, 6, 7, 8, 9, 10, 11, 12, 13, 14] rfl
      have hDc := hD.sub (ws' := [(ma, .inr (6, mo_ 0 zk zp za zb zx zy sn zf zt zw zm zh x0 y0 dx dy zz cu zo zu)), (zo, .inl (cJ, 12400, .inr (.inl ov))), (zu, .inl (cJ, 12400, .inr (.inl un))), (zz, .inl (cJ, 192, .inr (.inl z))), (zk, .inl (cI, 2, .inl kn)), (zp, .inl (cI, 2, .inl pt)), (za, .inl (cI, 2, .inl pa)), (zb, .inl (cI, 2050, .inl bg)), (zx, .inl (cI, 4096, .inl xs)), (zy, .inl (cI, 4096, .inl ys)), (zf, .inl (cI, 4096, .inl fr)), (zt, .inl (cI, 4096, .inl to1)), (zw, .inl (cI, 4096, .inl wh)), (zm, .inl (cI, 9, .inl mx)), (zh, .inl (cZ, 2, .inl ha))]) [0, 1, 2, 3, 4, 5, 6, 7, 8, 9, 10, 11, 12, 13, 14] (by decide) rfl
      have hFc := va_free (wc := [(ma, .inr (6, mo_ 0 zk zp za zb zx zy sn zf zt zw zm zh x0 y0 dx dy zz cu zo zu)), (zo, .inl (cJ, 12400, .inr (.inl ov))), (zu, .inl (cJ, 12400, .inr (.inl un))), (zz, .inl (cJ, 192, .inr (.inl z))), (zk, .inl (cI, 2, .inl kn)), (zp, .inl (cI, 2, .inl pt)), (za, .inl (cI, 2, .inl pa)), (zb, .inl (cI, 2050, .inl bg)), (zx, .inl (cI, 4096, .inl xs)), (zy, .inl (cI, 4096, .inl ys)), (zf, .inl (cI, 4096, .inl fr)), (zt, .inl (cI, 4096, .inl to1)), (zw, .inl (cI, 4096, .inl wh)), (zm, .inl (cI, 9, .inl mx)), (zh, .inl (cZ, 2, .inl ha))]) hD hS hA [0, 1, 2, 3, 4, 5, 6, 7, 8, 9, 10, 11, 12, 13, 14] rfl
      refine va_callv (va_runV (As := []) (rest := []) ⟨hx, hb, hml, hown, hts⟩ (kX6_look l g cI cJ cZ H.size ma 0 sn x0 y0 dx dy cu zk zp za zb zx zy zf zt zw zm zh zz zo zu ov un z kn pt pa bg xs ys fr to1 wh mx ha PT PA SN hst hmo) (cwV 0 hts gX6_entry_X6_look rfl rfl rfl (by decide +kernel) ⟨Nat.le_of_ble_eq_true rfl, Nat.le_of_ble_eq_true rfl⟩) (pv_ hK hPc hDc (va_recv hK hPc (ci := 6) (q0 := 0) rfl rfl)) rfl rfl hl.1 rfl (lv_room (Nat.le_of_ble_eq_true rfl)) dX6_entry_30 ⟨Nat.zero_le _, Nat.zero_le _⟩) hS (fun q _ h => hFc q h) hFc (fun u t H1 locs ht hvm hm3 hB hz1 hk1 hS => ?_)
      obtain ⟨fA, tA, wA, oA, uA, zA⟩ := u
      obtain ⟨xB, yB, dB, fB, cB, hP1, hK1, hD1⟩ := hB
      rw [ht] at hP1
      dsimp only at hm3
      obtain ⟨hP, hD⟩ := va_join (wr := []) (w1 := [(ma, .inr (6, mo_ 0 zk zp za zb zx zy (nI (gat_ kn xs ys SN PA PT).length) zf zt zw zm zh xB yB dB fB zz cB zo zu)), (zo, .inl (cJ, 12400, .inr (.inl oA))), (zu, .inl (cJ, 12400, .inr (.inl uA))), (zz, .inl (cJ, 192, .inr (.inl zA))), (zk, .inl (cI, 2, .inl kn)), (zp, .inl (cI, 2, .inl pt)), (za, .inl (cI, 2, .inl pa)), (zb, .inl (cI, 2050, .inl bg)), (zx, .inl (cI, 4096, .inl xs)), (zy, .inl (cI, 4096, .inl ys)), (zf, .inl (cI, 4096, .inl fA)), (zt, .inl (cI, 4096, .inl tA)), (zw, .inl (cI, 4096, .inl wA)), (zm, .inl (cI, 9, .inl (lkM_ kn xs ys SN PA PT mx))), (zh, .inl (cZ, 2, .inl (lkH_ kn xs ys SN PA PT ha)))]) hP hD [0, 1, 2, 3, 4, 5, 6, 7, 8, 9, 10, 11, 12, 13, 14] [] rfl rfl (by decide) (by decide) hk1 hFc hP1 hD1
      clear hPc hDc hFc hP1 hD1 hK1 hk1 hz1 hvm ht
      generalize H1 = H at hP hS ⊢
      have hP : va_P g vwCl [(ma, .inr (6, mo_ 0 zk zp za zb zx zy (nI (gat_ kn xs ys SN PA PT).length) zf zt zw zm zh xB yB dB fB zz cB zo zu)), (zo, .inl (cJ, 12400, .inr (.inl oA))), (zu, .inl (cJ, 12400, .inr (.inl uA))), (zz, .inl (cJ, 192, .inr (.inl zA))), (zk, .inl (cI, 2, .inl kn)), (zp, .inl (cI, 2, .inl pt)), (za, .inl (cI, 2, .inl pa)), (zb, .inl (cI, 2050, .inl bg)), (zx, .inl (cI, 4096, .inl xs)), (zy, .inl (cI, 4096, .inl ys)), (zf, .inl (cI, 4096, .inl fA)), (zt, .inl (cI, 4096, .inl tA)), (zw, .inl (cI, 4096, .inl wA)), (zm, .inl (cI, 9, .inl (lkM_ kn xs ys SN PA PT mx))), (zh, .inl (cZ, 2, .inl (lkH_ kn xs ys SN PA PT ha)))] H := hP
      have hD : va_D A [(ma, .inr (6, mo_ 0 zk zp za zb zx zy (nI (gat_ kn xs ys SN PA PT).length) zf zt zw zm zh xB yB dB fB zz cB zo zu)), (zo, .inl (cJ, 12400, .inr (.inl oA))), (zu, .inl (cJ, 12400, .inr (.inl uA))), (zz, .inl (cJ, 192, .inr (.inl zA))), (zk, .inl (cI, 2, .inl kn)), (zp, .inl (cI, 2, .inl pt)), (za, .inl (cI, 2, .inl pa)), (zb, .inl (cI, 2050, .inl bg)), (zx, .inl (cI, 4096, .inl xs)), (zy, .inl (cI, 4096, .inl ys)), (zf, .inl (cI, 4096, .inl fA)), (zt, .inl (cI, 4096, .inl tA)), (zw, .inl (cI, 4096, .inl wA)), (zm, .inl (cI, 9, .inl (lkM_ kn xs ys SN PA PT mx))), (zh, .inl (cZ, 2, .inl (lkH_ kn xs ys SN PA PT ha)))] := hD
      refine lv_aload_n hx hb dX6_entry_33 rfl (lv_at hl 0 rfl) ?_
      refine va_get (D := g) (ci := 6) (v := .ref zm) (C := RX6) (T := TX6) (N := 21) hx hb hts hiX6 hown hK hP 0 rfl rfl 11 (by decide) (hts (.fieldLink RX6 37 "ShapeRelatorModel" "matrix" "[I") (List.mem_of_getElem? (i := 2) rfl)) (fun _ h9 => h9) rfl dX6_entry_34 ?_
      refine lv_iconst (v := 3) hx hb dX6_entry_37 (by decide) ?_
      refine lv_iload_n hx hb dX6_entry_38 rfl (lv_at hl 1 rfl) ?_
      refine lv_imul hx hb dX6_entry_39 ?_
      refine lv_iload_n hx hb dX6_entry_40 rfl (lv_at hl 2 rfl) ?_
      refine lv_iadd hx hb dX6_entry_41 ?_
      refine va_iald (D := g) hx hb hK hP 13 0 rfl rfl (t3_i (t3_w n1) (t3_w n2)) dX6_entry_42 ?_
      refine tpi_ (y := (mat_ (lkM_ kn xs ys SN PA PT mx) o1 o2)) rfl ?_
      have hP9 := hP.sub (ws' := [(ma, .inr (6, mo_ 0 zk zp za zb zx zy (nI (gat_ kn xs ys SN PA PT).length) zf zt zw zm zh xB yB dB fB zz cB zo zu)), (zo, .inl (cJ, 12400, .inr (.inl oA))), (zu, .inl (cJ, 12400, .inr (.inl uA))), (zz, .inl (cJ, 192, .inr (.inl zA))), (zk, .inl (cI, 2, .inl kn)), (zp, .inl (cI, 2, .inl pt)), (za, .inl (cI, 2, .inl pa)), (zb, .inl (cI, 2050, .inl bg)), (zx, .inl (cI, 4096, .inl xs)), (zy, .inl (cI, 4096, .inl ys)), (zf, .inl (cI, 4096, .inl fA)), (zt, .inl (cI, 4096, .inl tA)), (zw, .inl (cI, 4096, .inl wA)), (zm, .inl (cI, 9, .inl (lkM_ kn xs ys SN PA PT mx))), (zh, .inl (cZ, 2, .inl (lkH_ kn xs ys SN PA PT ha)))]) [0, 1, 2, 3, 4, 5, 6, 7, 8, 9, 10, 11, 12, 13, 14] rfl
      have hD9 := hD.sub (ws' := [(ma, .inr (6, mo_ 0 zk zp za zb zx zy (nI (gat_ kn xs ys SN PA PT).length) zf zt zw zm zh xB yB dB fB zz cB zo zu)), (zo, .inl (cJ, 12400, .inr (.inl oA))), (zu, .inl (cJ, 12400, .inr (.inl uA))), (zz, .inl (cJ, 192, .inr (.inl zA))), (zk, .inl (cI, 2, .inl kn)), (zp, .inl (cI, 2, .inl pt)), (za, .inl (cI, 2, .inl pa)), (zb, .inl (cI, 2050, .inl bg)), (zx, .inl (cI, 4096, .inl xs)), (zy, .inl (cI, 4096, .inl ys)), (zf, .inl (cI, 4096, .inl fA)), (zt, .inl (cI, 4096, .inl tA)), (zw, .inl (cI, 4096, .inl wA)), (zm, .inl (cI, 9, .inl (lkM_ kn xs ys SN PA PT mx))), (zh, .inl (cZ, 2, .inl (lkH_ kn xs ys SN PA PT ha)))]) [0, 1, 2, 3, 4, 5, 6, 7, 8, 9, 10, 11, 12, 13, 14] (by decide) rfl
      exact W.iret (v := (mat_ (lkM_ kn xs ys SN PA PT mx) o1 o2)) hx hb hr (fun t ht hW => ⟨⟨mat_ (lkM_ kn xs ys SN PA PT mx) o1 o2, 0, rfl, ⟨fun h => absurd h (fun q => q.elim n1 n2), fun _ => ⟨rfl, rfl⟩⟩, nI (gat_ kn xs ys SN PA PT).length, xB, yB, dB, fB, cB, fA, tA, wA, lkM_ kn xs ys SN PA PT mx, lkH_ kn xs ys SN PA PT ha, zA, oA, uA, by rw [ht]; exact hP9, va_K.moved hW.alike hK, hD9⟩, hS.F ht⟩) hS.2.2 dX6_entry_43
    · refine lv_aload_n hx hb dX6_entry_23 rfl (lv_at hl 0 rfl) ?_
      refine lv_iconst (v := 1) hx hb dX6_entry_24 (by decide) ?_
      have hPc := hP.sub (ws' := [(ma, .inr (6, mo_ 0 zk zp za zb zx zy sn zf zt zw zm zh x0 y0 dx dy zz cu zo zu))]) [0] rfl
      have hDc := hD.sub (ws' := [(ma, .inr (6, mo_ 0 zk zp za zb zx zy sn zf zt zw zm zh x0 y0 dx dy zz cu zo zu))]) [0] (by decide) rfl
      have hFc := va_free (wc := [(ma, .inr (6, mo_ 0 zk zp za zb zx zy sn zf zt zw zm zh x0 y0 dx dy zz cu zo zu))]) hD hS hA [0] rfl
      refine va_calli (va_runV (As := [.int 1]) (rest := []) ⟨hx, hb, hml, hown, hts⟩ (kX6_fail l g cI cJ cZ H.size ma 0 sn x0 y0 dx dy cu zk zp za zb zx zy zf zt zw zm zh zz zo zu 1) (cwV 1 hts gX6_entry_X6_fail rfl rfl rfl (by decide +kernel) ⟨Nat.le_of_ble_eq_true rfl, Nat.le_of_ble_eq_true rfl⟩) (pv_ hK hPc hDc (va_recv hK hPc (ci := 6) (q0 := 0) rfl rfl)) rfl rfl hl.1 rfl (lv_room (Nat.le_of_ble_eq_true rfl)) dX6_entry_25 ⟨Nat.zero_le _, Nat.zero_le _⟩) hS (fun q _ h => hFc q h) hFc (fun rf u t H1 locs ht hvm hwf hB hz1 hk1 hS => ?_)
      obtain ⟨hP1, hK1, hD1⟩ := hB
      rw [ht] at hP1
      obtain ⟨hP, hD⟩ := va_join (wr := [(zo, .inl (cJ, 12400, .inr (.inl ov))), (zu, .inl (cJ, 12400, .inr (.inl un))), (zz, .inl (cJ, 192, .inr (.inl z))), (zk, .inl (cI, 2, .inl kn)), (zp, .inl (cI, 2, .inl pt)), (za, .inl (cI, 2, .inl pa)), (zb, .inl (cI, 2050, .inl bg)), (zx, .inl (cI, 4096, .inl xs)), (zy, .inl (cI, 4096, .inl ys)), (zf, .inl (cI, 4096, .inl fr)), (zt, .inl (cI, 4096, .inl to1)), (zw, .inl (cI, 4096, .inl wh)), (zm, .inl (cI, 9, .inl mx)), (zh, .inl (cZ, 2, .inl ha))]) (w1 := [(ma, .inr (6, mo_ 1 zk zp za zb zx zy sn zf zt zw zm zh x0 y0 dx dy zz cu zo zu))]) hP hD [0] [1, 2, 3, 4, 5, 6, 7, 8, 9, 10, 11, 12, 13, 14] rfl rfl (by decide) (by decide) hk1 hFc hP1 hD1
      clear hPc hDc hFc hP1 hD1 hK1 hk1 hz1 hvm ht
      generalize H1 = H at hP hS ⊢
      have hP : va_P g vwCl [(zo, .inl (cJ, 12400, .inr (.inl ov))), (zu, .inl (cJ, 12400, .inr (.inl un))), (zz, .inl (cJ, 192, .inr (.inl z))), (zk, .inl (cI, 2, .inl kn)), (zp, .inl (cI, 2, .inl pt)), (za, .inl (cI, 2, .inl pa)), (zb, .inl (cI, 2050, .inl bg)), (zx, .inl (cI, 4096, .inl xs)), (zy, .inl (cI, 4096, .inl ys)), (zf, .inl (cI, 4096, .inl fr)), (zt, .inl (cI, 4096, .inl to1)), (zw, .inl (cI, 4096, .inl wh)), (zm, .inl (cI, 9, .inl mx)), (zh, .inl (cZ, 2, .inl ha)), (ma, .inr (6, mo_ 1 zk zp za zb zx zy sn zf zt zw zm zh x0 y0 dx dy zz cu zo zu))] H := hP
      have hD : va_D A [(zo, .inl (cJ, 12400, .inr (.inl ov))), (zu, .inl (cJ, 12400, .inr (.inl un))), (zz, .inl (cJ, 192, .inr (.inl z))), (zk, .inl (cI, 2, .inl kn)), (zp, .inl (cI, 2, .inl pt)), (za, .inl (cI, 2, .inl pa)), (zb, .inl (cI, 2050, .inl bg)), (zx, .inl (cI, 4096, .inl xs)), (zy, .inl (cI, 4096, .inl ys)), (zf, .inl (cI, 4096, .inl fr)), (zt, .inl (cI, 4096, .inl to1)), (zw, .inl (cI, 4096, .inl wh)), (zm, .inl (cI, 9, .inl mx)), (zh, .inl (cZ, 2, .inl ha)), (ma, .inr (6, mo_ 1 zk zp za zb zx zy sn zf zt zw zm zh x0 y0 dx dy zz cu zo zu))] := hD
      have hP9 := hP.sub (ws' := [(ma, .inr (6, mo_ 1 zk zp za zb zx zy sn zf zt zw zm zh x0 y0 dx dy zz cu zo zu)), (zo, .inl (cJ, 12400, .inr (.inl ov))), (zu, .inl (cJ, 12400, .inr (.inl un))), (zz, .inl (cJ, 192, .inr (.inl z))), (zk, .inl (cI, 2, .inl kn)), (zp, .inl (cI, 2, .inl pt)), (za, .inl (cI, 2, .inl pa)), (zb, .inl (cI, 2050, .inl bg)), (zx, .inl (cI, 4096, .inl xs)), (zy, .inl (cI, 4096, .inl ys)), (zf, .inl (cI, 4096, .inl fr)), (zt, .inl (cI, 4096, .inl to1)), (zw, .inl (cI, 4096, .inl wh)), (zm, .inl (cI, 9, .inl mx)), (zh, .inl (cZ, 2, .inl ha))]) [14, 0, 1, 2, 3, 4, 5, 6, 7, 8, 9, 10, 11, 12, 13] rfl
      have hD9 := hD.sub (ws' := [(ma, .inr (6, mo_ 1 zk zp za zb zx zy sn zf zt zw zm zh x0 y0 dx dy zz cu zo zu)), (zo, .inl (cJ, 12400, .inr (.inl ov))), (zu, .inl (cJ, 12400, .inr (.inl un))), (zz, .inl (cJ, 192, .inr (.inl z))), (zk, .inl (cI, 2, .inl kn)), (zp, .inl (cI, 2, .inl pt)), (za, .inl (cI, 2, .inl pa)), (zb, .inl (cI, 2050, .inl bg)), (zx, .inl (cI, 4096, .inl xs)), (zy, .inl (cI, 4096, .inl ys)), (zf, .inl (cI, 4096, .inl fr)), (zt, .inl (cI, 4096, .inl to1)), (zw, .inl (cI, 4096, .inl wh)), (zm, .inl (cI, 9, .inl mx)), (zh, .inl (cZ, 2, .inl ha))]) [14, 0, 1, 2, 3, 4, 5, 6, 7, 8, 9, 10, 11, 12, 13] (by decide) rfl
      exact W.iret (v := rf) hx hb hr (fun t ht hW => ⟨⟨rf, 1, rfl, ⟨fun _ => rfl, fun h => absurd (Or.inr (hw2.symm.trans c2)) h⟩, sn, x0, y0, dx, dy, cu, fr, to1, wh, mx, ha, z, ov, un, by rw [ht]; exact hP9, va_K.moved hW.alike hK, hD9⟩, hS.F ht⟩) hS.2.2 dX6_entry_28

theorem ikX6_dimension_X6 : ∀ w ∈ wsX60, w ∈ wsX6_dimension := by decide +kernel
set_option maxHeartbeats 1000000 in
set_option maxRecDepth 100000 in
theorem kX6_dimension (l : Launch) (g : va_G) (cI cJ cZ : ClassId) (sz : Nat) (ma : Nat) (th : Int32) (sn : Int32) (x0 : Int64) (y0 : Int64) (dx : Int64) (dy : Int64) (cu : Int32) (zk : Nat) (zp : Nat) (za : Nat) (zb : Nat) (zx : Nat) (zy : Nat) (zf : Nat) (zt : Nat) (zw : Nat) (zm : Nat) (zh : Nat) (zz : Nat) (zo : Nat) (zu : Nat) (ov : Nat → Int64) (un : Nat → Int64) (z : Nat → Int64) (kn : Nat → Int32) (pt : Nat → Int32) (pa : Nat → Int32) (bg : Nat → Int32) (xs : Nat → Int32) (ys : Nat → Int32) (fr : Nat → Int32) (to1 : Nat → Int32) (wh : Nat → Int32) (mx : Nat → Int32) (ha : Nat → Int32) (PT : Nat → Nat) (PA : Nat → Nat) (SN : Nat → Nat → Nat) (sv : Int32) (hst : mst_ pt pa bg PT PA SN) (hmo : ∀ s, s < 2 → mon_ (SN s) (PA s) (PT s)) : Met l yX6_dimension wsX6_dimension ({ frames := 9, cells := 0, slots := 0, locals := 214 }) (pc_ g cI cJ cZ [.ref ma, .int sv] [(ma, .inr (6, mo_ th zk zp za zb zx zy sn zf zt zw zm zh x0 y0 dx dy zz cu zo zu)), (zo, .inl (cJ, 12400, .inr (.inl ov))), (zu, .inl (cJ, 12400, .inr (.inl un))), (zz, .inl (cJ, 192, .inr (.inl z))), (zk, .inl (cI, 2, .inl kn)), (zp, .inl (cI, 2, .inl pt)), (za, .inl (cI, 2, .inl pa)), (zb, .inl (cI, 2050, .inl bg)), (zx, .inl (cI, 4096, .inl xs)), (zy, .inl (cI, 4096, .inl ys)), (zf, .inl (cI, 4096, .inl fr)), (zt, .inl (cI, 4096, .inl to1)), (zw, .inl (cI, 4096, .inl wh)), (zm, .inl (cI, 9, .inl mx)), (zh, .inl (cZ, 2, .inl ha))] sz) (va_Qi (fun (r : Int32) (th2 : Int32) => (wi_ sv 0 1 = 0 → th2 = 1) ∧ (∀ sh, sh < 2 → sv = nI sh → th2 = 0 ∧ r = if ino_ (kn sh) (PT sh) (gat_ kn xs ys SN PA PT) sh ((lkH_ kn xs ys SN PA PT ha) sh) < 0 ∧ ¬ hsg_ (gat_ kn xs ys SN PA PT) sh = 0 then 1 else ino_ (kn sh) (PT sh) (gat_ kn xs ys SN PA PT) sh ((lkH_ kn xs ys SN PA PT ha) sh))) (fun (th2 : Int32) t => ∃ (sn9 : Int32) (x9 : Int64) (y9 : Int64) (d9 : Int64) (f9 : Int64) (cu9 : Int32) (fr9 : Nat → Int32) (to9 : Nat → Int32) (wh9 : Nat → Int32) (mx9 : Nat → Int32) (ha9 : Nat → Int32) (z9 : Nat → Int64) (ov9 : Nat → Int64) (un9 : Nat → Int64), wd_ g cI cJ cZ (va_A [(ma, .inr (6, mo_ th zk zp za zb zx zy sn zf zt zw zm zh x0 y0 dx dy zz cu zo zu)), (zo, .inl (cJ, 12400, .inr (.inl ov))), (zu, .inl (cJ, 12400, .inr (.inl un))), (zz, .inl (cJ, 192, .inr (.inl z))), (zk, .inl (cI, 2, .inl kn)), (zp, .inl (cI, 2, .inl pt)), (za, .inl (cI, 2, .inl pa)), (zb, .inl (cI, 2050, .inl bg)), (zx, .inl (cI, 4096, .inl xs)), (zy, .inl (cI, 4096, .inl ys)), (zf, .inl (cI, 4096, .inl fr)), (zt, .inl (cI, 4096, .inl to1)), (zw, .inl (cI, 4096, .inl wh)), (zm, .inl (cI, 9, .inl mx)), (zh, .inl (cZ, 2, .inl ha))] sz) [(ma, .inr (6, mo_ th2 zk zp za zb zx zy sn9 zf zt zw zm zh x9 y9 d9 f9 zz cu9 zo zu)), (zo, .inl (cJ, 12400, .inr (.inl ov9))), (zu, .inl (cJ, 12400, .inr (.inl un9))), (zz, .inl (cJ, 192, .inr (.inl z9))), (zk, .inl (cI, 2, .inl kn)), (zp, .inl (cI, 2, .inl pt)), (za, .inl (cI, 2, .inl pa)), (zb, .inl (cI, 2050, .inl bg)), (zx, .inl (cI, 4096, .inl xs)), (zy, .inl (cI, 4096, .inl ys)), (zf, .inl (cI, 4096, .inl fr9)), (zt, .inl (cI, 4096, .inl to9)), (zw, .inl (cI, 4096, .inl wh9)), (zm, .inl (cI, 9, .inl mx9)), (zh, .inl (cZ, 2, .inl ha9))] t) (va_A [(ma, .inr (6, mo_ th zk zp za zb zx zy sn zf zt zw zm zh x0 y0 dx dy zz cu zo zu)), (zo, .inl (cJ, 12400, .inr (.inl ov))), (zu, .inl (cJ, 12400, .inr (.inl un))), (zz, .inl (cJ, 192, .inr (.inl z))), (zk, .inl (cI, 2, .inl kn)), (zp, .inl (cI, 2, .inl pt)), (za, .inl (cI, 2, .inl pa)), (zb, .inl (cI, 2050, .inl bg)), (zx, .inl (cI, 4096, .inl xs)), (zy, .inl (cI, 4096, .inl ys)), (zf, .inl (cI, 4096, .inl fr)), (zt, .inl (cI, 4096, .inl to1)), (zw, .inl (cI, 4096, .inl wh)), (zm, .inl (cI, 9, .inl mx)), (zh, .inl (cZ, 2, .inl ha))] sz)) (0) (0) (va_A [(ma, .inr (6, mo_ th zk zp za zb zx zy sn zf zt zw zm zh x0 y0 dx dy zz cu zo zu)), (zo, .inl (cJ, 12400, .inr (.inl ov))), (zu, .inl (cJ, 12400, .inr (.inl un))), (zz, .inl (cJ, 192, .inr (.inl z))), (zk, .inl (cI, 2, .inl kn)), (zp, .inl (cI, 2, .inl pt)), (za, .inl (cI, 2, .inl pa)), (zb, .inl (cI, 2050, .inl bg)), (zx, .inl (cI, 4096, .inl xs)), (zy, .inl (cI, 4096, .inl ys)), (zf, .inl (cI, 4096, .inl fr)), (zt, .inl (cI, 4096, .inl to1)), (zw, .inl (cI, 4096, .inl wh)), (zm, .inl (cI, 9, .inl mx)), (zh, .inl (cZ, 2, .inl ha))] sz) := by
  refine Met.ofW (cc := cX6_dimension) (maxL := 3) (ret := (some .int)) (by decide) rfl ?_
  intro p e s m args below meth c s₁ B hml hv
  obtain ⟨rfl, hsz, hP, hK, hD0⟩ := hv
  have hx := B.exec
  have hb := B.bytes
  have hr := B.returns
  have hts := atoms_spec (ws := wsX6_dimension) B.pre
  have hown : s.vm.findClass RX6 = some m.cls := findClass_of_methodNamed B.named
  have hlocks := B.notSynchronized
  subst hsz
  have hD := hD0.self (sz := s.heap.size)
  generalize hAe : va_A [(ma, .inr (6, mo_ th zk zp za zb zx zy sn zf zt zw zm zh x0 y0 dx dy zz cu zo zu)), (zo, .inl (cJ, 12400, .inr (.inl ov))), (zu, .inl (cJ, 12400, .inr (.inl un))), (zz, .inl (cJ, 192, .inr (.inl z))), (zk, .inl (cI, 2, .inl kn)), (zp, .inl (cI, 2, .inl pt)), (za, .inl (cI, 2, .inl pa)), (zb, .inl (cI, 2050, .inl bg)), (zx, .inl (cI, 4096, .inl xs)), (zy, .inl (cI, 4096, .inl ys)), (zf, .inl (cI, 4096, .inl fr)), (zt, .inl (cI, 4096, .inl to1)), (zw, .inl (cI, 4096, .inl wh)), (zm, .inl (cI, 9, .inl mx)), (zh, .inl (cZ, 2, .inl ha))] s.heap.size = A at hD ⊢
  have hA : ∀ q : Nat, s.heap.size ≤ q → A q := fun q h => by rw [← hAe]; exact Or.inr h
  have hS : va_S A s.heap s.heap [] := va_S.rf
  have hP : va_P g vwCl [(ma, .inr (6, mo_ th zk zp za zb zx zy sn zf zt zw zm zh x0 y0 dx dy zz cu zo zu)), (zo, .inl (cJ, 12400, .inr (.inl ov))), (zu, .inl (cJ, 12400, .inr (.inl un))), (zz, .inl (cJ, 192, .inr (.inl z))), (zk, .inl (cI, 2, .inl kn)), (zp, .inl (cI, 2, .inl pt)), (za, .inl (cI, 2, .inl pa)), (zb, .inl (cI, 2050, .inl bg)), (zx, .inl (cI, 4096, .inl xs)), (zy, .inl (cI, 4096, .inl ys)), (zf, .inl (cI, 4096, .inl fr)), (zt, .inl (cI, 4096, .inl to1)), (zw, .inl (cI, 4096, .inl wh)), (zm, .inl (cI, 9, .inl mx)), (zh, .inl (cZ, 2, .inl ha))] s.heap := hP
  have hl := lv_entry ([.ref ma, .int sv]) (n := 3) (Nat.le_of_ble_eq_true rfl)
  rw [lg_entry_eq]
  generalize (lg_sl ([.ref ma, .int sv]) ++ List.replicate (3 - (lg_sl ([.ref ma, .int sv])).length) Slot.unset).toArray = ls at hl ⊢
  have hl : lv_has ls 3 [(0, .ref ma), (1, .int sv)] := hl
  have hH0 : s.heap = s.heap := rfl
  have hiX6 := ikX6_dimension_X6
  refine lv_aload_n hx hb dX6_dimension_0 rfl (lv_at hl 0 rfl) ?_
  refine lv_iconst (v := 0) hx hb dX6_dimension_1 (by decide) ?_
  refine va_put (D := g) (ci := 6) (v := .int 0) (ty := .int) (C := RX6) (T := TX6) (N := 21) hx hb hts hiX6 tyX6 tyX6_ok nmX6 hown hK hP hD hS 0 rfl rfl 0 (by decide) (hts (.fieldLink RX6 54 "ShapeRelatorModel" "thrown" "I") (List.mem_of_getElem? (i := 1) rfl)) (fun _ h9 => h9) rfl (by decide +kernel) rfl rfl (Nat.le_of_ble_eq_true rfl) dX6_dimension_2 (fun H locs hP hD hS => ?_)
  have hP : va_P g vwCl [(ma, .inr (6, mo_ 0 zk zp za zb zx zy sn zf zt zw zm zh x0 y0 dx dy zz cu zo zu)), (zo, .inl (cJ, 12400, .inr (.inl ov))), (zu, .inl (cJ, 12400, .inr (.inl un))), (zz, .inl (cJ, 192, .inr (.inl z))), (zk, .inl (cI, 2, .inl kn)), (zp, .inl (cI, 2, .inl pt)), (za, .inl (cI, 2, .inl pa)), (zb, .inl (cI, 2050, .inl bg)), (zx, .inl (cI, 4096, .inl xs)), (zy, .inl (cI, 4096, .inl ys)), (zf, .inl (cI, 4096, .inl fr)), (zt, .inl (cI, 4096, .inl to1)), (zw, .inl (cI, 4096, .inl wh)), (zm, .inl (cI, 9, .inl mx)), (zh, .inl (cZ, 2, .inl ha))] H := hP
  have hD : va_D A [(ma, .inr (6, mo_ 0 zk zp za zb zx zy sn zf zt zw zm zh x0 y0 dx dy zz cu zo zu)), (zo, .inl (cJ, 12400, .inr (.inl ov))), (zu, .inl (cJ, 12400, .inr (.inl un))), (zz, .inl (cJ, 192, .inr (.inl z))), (zk, .inl (cI, 2, .inl kn)), (zp, .inl (cI, 2, .inl pt)), (za, .inl (cI, 2, .inl pa)), (zb, .inl (cI, 2050, .inl bg)), (zx, .inl (cI, 4096, .inl xs)), (zy, .inl (cI, 4096, .inl ys)), (zf, .inl (cI, 4096, .inl fr)), (zt, .inl (cI, 4096, .inl to1)), (zw, .inl (cI, 4096, .inl wh)), (zm, .inl (cI, 9, .inl mx)), (zh, .inl (cZ, 2, .inl ha))] := hD
  refine lv_iload_n hx hb dX6_dimension_5 rfl (lv_at hl 1 rfl) ?_
  have hPc := hP.sub (ws' := []) [] rfl
  have hDc := hD.sub (ws' := []) [] (by decide) rfl
  have hFc := va_free (wc := []) hD hS hA [] rfl
  refine va_calli (va_runS (As := [.int sv]) (rest := []) ⟨hx, hb, hml, hown, hts⟩ (kX6_isShape l g cI cJ cZ H.size sv) (va_cwS 1 hts gX6_dimension_X6_isShape rfl rfl rfl (by decide +kernel) ⟨Nat.le_of_ble_eq_true rfl, Nat.le_of_ble_eq_true rfl⟩) (ps_ hK hPc hDc) rfl rfl hl.1 rfl (lv_room (Nat.le_of_ble_eq_true rfl)) dX6_dimension_6 ⟨Nat.zero_le _, Nat.zero_le _⟩) hS (fun q _ h => hFc q h) hFc (fun r1 u t H1 locs ht hvm hw1 hB hz1 hk1 hS => ?_)
  obtain ⟨hP1, hK1, hD1⟩ := hB
  rw [ht] at hP1
  obtain ⟨hP, hD⟩ := va_join (wr := [(ma, .inr (6, mo_ 0 zk zp za zb zx zy sn zf zt zw zm zh x0 y0 dx dy zz cu zo zu)), (zo, .inl (cJ, 12400, .inr (.inl ov))), (zu, .inl (cJ, 12400, .inr (.inl un))), (zz, .inl (cJ, 192, .inr (.inl z))), (zk, .inl (cI, 2, .inl kn)), (zp, .inl (cI, 2, .inl pt)), (za, .inl (cI, 2, .inl pa)), (zb, .inl (cI, 2050, .inl bg)), (zx, .inl (cI, 4096, .inl xs)), (zy, .inl (cI, 4096, .inl ys)), (zf, .inl (cI, 4096, .inl fr)), (zt, .inl (cI, 4096, .inl to1)), (zw, .inl (cI, 4096, .inl wh)), (zm, .inl (cI, 9, .inl mx)), (zh, .inl (cZ, 2, .inl ha))]) (w1 := []) hP hD [] [0, 1, 2, 3, 4, 5, 6, 7, 8, 9, 10, 11, 12, 13, 14] rfl rfl (by decide) (by decide) hk1 hFc hP1 hD1
  clear hPc hDc hFc hP1 hD1 hK1 hk1 hz1 hvm ht
  generalize H1 = H at hP hS ⊢
  have hP : va_P g vwCl [(ma, .inr (6, mo_ 0 zk zp za zb zx zy sn zf zt zw zm zh x0 y0 dx dy zz cu zo zu)), (zo, .inl (cJ, 12400, .inr (.inl ov))), (zu, .inl (cJ, 12400, .inr (.inl un))), (zz, .inl (cJ, 192, .inr (.inl z))), (zk, .inl (cI, 2, .inl kn)), (zp, .inl (cI, 2, .inl pt)), (za, .inl (cI, 2, .inl pa)), (zb, .inl (cI, 2050, .inl bg)), (zx, .inl (cI, 4096, .inl xs)), (zy, .inl (cI, 4096, .inl ys)), (zf, .inl (cI, 4096, .inl fr)), (zt, .inl (cI, 4096, .inl to1)), (zw, .inl (cI, 4096, .inl wh)), (zm, .inl (cI, 9, .inl mx)), (zh, .inl (cZ, 2, .inl ha))] H := hP
  have hD : va_D A [(ma, .inr (6, mo_ 0 zk zp za zb zx zy sn zf zt zw zm zh x0 y0 dx dy zz cu zo zu)), (zo, .inl (cJ, 12400, .inr (.inl ov))), (zu, .inl (cJ, 12400, .inr (.inl un))), (zz, .inl (cJ, 192, .inr (.inl z))), (zk, .inl (cI, 2, .inl kn)), (zp, .inl (cI, 2, .inl pt)), (za, .inl (cI, 2, .inl pa)), (zb, .inl (cI, 2050, .inl bg)), (zx, .inl (cI, 4096, .inl xs)), (zy, .inl (cI, 4096, .inl ys)), (zf, .inl (cI, 4096, .inl fr)), (zt, .inl (cI, 4096, .inl to1)), (zw, .inl (cI, 4096, .inl wh)), (zm, .inl (cI, 9, .inl mx)), (zh, .inl (cZ, 2, .inl ha))] := hD
  refine lv_if_ne (tgt := 18) hx hb dX6_dimension_9 (by decide) (fun c1 => ?_) (fun c1 => ?_)
  · have n1 : ¬ wi_ sv 0 1 = 0 := fun h => c1 (hw1.trans h)
    obtain ⟨sh, hsh, esh⟩ := sh_w n1
    subst esh
    have hl : lv_has ls 3 [(0, .ref ma), (1, .int (nI sh))] := hl
    have hnd := gat_n (kn := kn) (xs := xs) (ys := ys) hst hmo
    have hl1 := gat_l (kn := kn) (xs := xs) (ys := ys) hst hmo
    have hmb : ∀ q ∈ gat_ kn xs ys SN PA PT, q.1 < 4096 ∧ q.2.1 < 4096 ∧ q.2.2 < 2 := fun q h => (hnd q h).1
    have hs3 := hst sh hsh
    refine lv_aload_n hx hb dX6_dimension_18 rfl (lv_at hl 0 rfl) ?_
    have hPc := hP.sub (ws' := [(ma, .inr (6, mo_ 0 zk zp za zb zx zy sn zf zt zw zm zh x0 y0 dx dy zz cu zo zu)), (zo, .inl (cJ, 12400, .inr (.inl ov))), (zu, .inl (cJ, 12400, .inr (.inl un))), (zz, .inl (cJ, 192, .inr (.inl z))), (zk, .inl (cI, 2, .inl kn)), (zp, .inl (cI, 2, .inl pt)), (za, .inl (cI, 2, .inl pa)), (zb, .inl (cI, 2050, .inl bg)), (zx, .inl (cI, 4096, .inl xs)), (zy, .inl (cI, 4096, .inl ys)), (zf, .inl (cI, 4096, .inl fr)), (zt, .inl (cI, 4096, .inl to1)), (zw, .inl (cI, 4096, .inl wh)), (zm, .inl (cI, 9, .inl mx)), (zh, .inl (cZ, 2, .inl ha))]) [0, 1, 2, 3, 4, 5, 6, 7, 8, 9, 10, 11, 12, 13, 14] rfl
    have hDc := hD.sub (ws' := [(ma, .inr (6, mo_ 0 zk zp za zb zx zy sn zf zt zw zm zh x0 y0 dx dy zz cu zo zu)), (zo, .inl (cJ, 12400, .inr (.inl ov))), (zu, .inl (cJ, 12400, .inr (.inl un))), (zz, .inl (cJ, 192, .inr (.inl z))), (zk, .inl (cI, 2, .inl kn)), (zp, .inl (cI, 2, .inl pt)), (za, .inl (cI, 2, .inl pa)), (zb, .inl (cI, 2050, .inl bg)), (zx, .inl (cI, 4096, .inl xs)), (zy, .inl (cI, 4096, .inl ys)), (zf, .inl (cI, 4096, .inl fr)), (zt, .inl (cI, 4096, .inl to1)), (zw, .inl (cI, 4096, .inl wh)), (zm, .inl (cI, 9, .inl mx)), (zh, .inl (cZ, 2, .inl ha))]) [0, 1, 2, 3, 4, 5, 6, 7, 8, 9, 10, 11, 12, 13, 14] (by decide) rfl
    have hFc := va_free (wc := [(ma, .inr (6, mo_ 0 zk zp za zb zx zy sn zf zt zw zm zh x0 y0 dx dy zz cu zo zu)), (zo, .inl (cJ, 12400, .inr (.inl ov))), (zu, .inl (cJ, 12400, .inr (.inl un))), (zz, .inl (cJ, 192, .inr (.inl z))), (zk, .inl (cI, 2, .inl kn)), (zp, .inl (cI, 2, .inl pt)), (za, .inl (cI, 2, .inl pa)), (zb, .inl (cI, 2050, .inl bg)), (zx, .inl (cI, 4096, .inl xs)), (zy, .inl (cI, 4096, .inl ys)), (zf, .inl (cI, 4096, .inl fr)), (zt, .inl (cI, 4096, .inl to1)), (zw, .inl (cI, 4096, .inl wh)), (zm, .inl (cI, 9, .inl mx)), (zh, .inl (cZ, 2, .inl ha))]) hD hS hA [0, 1, 2, 3, 4, 5, 6, 7, 8, 9, 10, 11, 12, 13, 14] rfl
    refine va_callv (va_runV (As := []) (rest := []) ⟨hx, hb, hml, hown, hts⟩ (kX6_look l g cI cJ cZ H.size ma 0 sn x0 y0 dx dy cu zk zp za zb zx zy zf zt zw zm zh zz zo zu ov un z kn pt pa bg xs ys fr to1 wh mx ha PT PA SN hst hmo) (cwV 0 hts gX6_dimension_X6_look rfl rfl rfl (by decide +kernel) ⟨Nat.le_of_ble_eq_true rfl, Nat.le_of_ble_eq_true rfl⟩) (pv_ hK hPc hDc (va_recv hK hPc (ci := 6) (q0 := 0) rfl rfl)) rfl rfl hl.1 rfl (lv_room (Nat.le_of_ble_eq_true rfl)) dX6_dimension_19 ⟨Nat.zero_le _, Nat.zero_le _⟩) hS (fun q _ h => hFc q h) hFc (fun u t H1 locs ht hvm hm3 hB hz1 hk1 hS => ?_)
    obtain ⟨fA, tA, wA, oA, uA, zA⟩ := u
    obtain ⟨xB, yB, dB, fB, cB, hP1, hK1, hD1⟩ := hB
    rw [ht] at hP1
    dsimp only at hm3
    obtain ⟨hP, hD⟩ := va_join (wr := []) (w1 := [(ma, .inr (6, mo_ 0 zk zp za zb zx zy (nI (gat_ kn xs ys SN PA PT).length) zf zt zw zm zh xB yB dB fB zz cB zo zu)), (zo, .inl (cJ, 12400, .inr (.inl oA))), (zu, .inl (cJ, 12400, .inr (.inl uA))), (zz, .inl (cJ, 192, .inr (.inl zA))), (zk, .inl (cI, 2, .inl kn)), (zp, .inl (cI, 2, .inl pt)), (za, .inl (cI, 2, .inl pa)), (zb, .inl (cI, 2050, .inl bg)), (zx, .inl (cI, 4096, .inl xs)), (zy, .inl (cI, 4096, .inl ys)), (zf, .inl (cI, 4096, .inl fA)), (zt, .inl (cI, 4096, .inl tA)), (zw, .inl (cI, 4096, .inl wA)), (zm, .inl (cI, 9, .inl (lkM_ kn xs ys SN PA PT mx))), (zh, .inl (cZ, 2, .inl (lkH_ kn xs ys SN PA PT ha)))]) hP hD [0, 1, 2, 3, 4, 5, 6, 7, 8, 9, 10, 11, 12, 13, 14] [] rfl rfl (by decide) (by decide) hk1 hFc hP1 hD1
    clear hPc hDc hFc hP1 hD1 hK1 hk1 hz1 hvm ht
    generalize H1 = H at hP hS ⊢
    have hP : va_P g vwCl [(ma, .inr (6, mo_ 0 zk zp za zb zx zy (nI (gat_ kn xs ys SN PA PT).length) zf zt zw zm zh xB yB dB fB zz cB zo zu)), (zo, .inl (cJ, 12400, .inr (.inl oA))), (zu, .inl (cJ, 12400, .inr (.inl uA))), (zz, .inl (cJ, 192, .inr (.inl zA))), (zk, .inl (cI, 2, .inl kn)), (zp, .inl (cI, 2, .inl pt)), (za, .inl (cI, 2, .inl pa)), (zb, .inl (cI, 2050, .inl bg)), (zx, .inl (cI, 4096, .inl xs)), (zy, .inl (cI, 4096, .inl ys)), (zf, .inl (cI, 4096, .inl fA)), (zt, .inl (cI, 4096, .inl tA)), (zw, .inl (cI, 4096, .inl wA)), (zm, .inl (cI, 9, .inl (lkM_ kn xs ys SN PA PT mx))), (zh, .inl (cZ, 2, .inl (lkH_ kn xs ys SN PA PT ha)))] H := hP
    have hD : va_D A [(ma, .inr (6, mo_ 0 zk zp za zb zx zy (nI (gat_ kn xs ys SN PA PT).length) zf zt zw zm zh xB yB dB fB zz cB zo zu)), (zo, .inl (cJ, 12400, .inr (.inl oA))), (zu, .inl (cJ, 12400, .inr (.inl uA))), (zz, .inl (cJ, 192, .inr (.inl zA))), (zk, .inl (cI, 2, .inl kn)), (zp, .inl (cI, 2, .inl pt)), (za, .inl (cI, 2, .inl pa)), (zb, .inl (cI, 2050, .inl bg)), (zx, .inl (cI, 4096, .inl xs)), (zy, .inl (cI, 4096, .inl ys)), (zf, .inl (cI, 4096, .inl fA)), (zt, .inl (cI, 4096, .inl tA)), (zw, .inl (cI, 4096, .inl wA)), (zm, .inl (cI, 9, .inl (lkM_ kn xs ys SN PA PT mx))), (zh, .inl (cZ, 2, .inl (lkH_ kn xs ys SN PA PT ha)))] := hD
    refine lv_aload_n hx hb dX6_dimension_22 rfl (lv_at hl 0 rfl) ?_
    refine lv_iload_n hx hb dX6_dimension_23 rfl (lv_at hl 1 rfl) ?_
    have hPc := hP.sub (ws' := [(ma, .inr (6, mo_ 0 zk zp za zb zx zy (nI (gat_ kn xs ys SN PA PT).length) zf zt zw zm zh xB yB dB fB zz cB zo zu)), (zw, .inl (cI, 4096, .inl wA)), (zk, .inl (cI, 2, .inl kn)), (zp, .inl (cI, 2, .inl pt)), (zh, .inl (cZ, 2, .inl (lkH_ kn xs ys SN PA PT ha)))]) [0, 12, 4, 5, 14] rfl
    have hDc := hD.sub (ws' := [(ma, .inr (6, mo_ 0 zk zp za zb zx zy (nI (gat_ kn xs ys SN PA PT).length) zf zt zw zm zh xB yB dB fB zz cB zo zu)), (zw, .inl (cI, 4096, .inl wA)), (zk, .inl (cI, 2, .inl kn)), (zp, .inl (cI, 2, .inl pt)), (zh, .inl (cZ, 2, .inl (lkH_ kn xs ys SN PA PT ha)))]) [0, 12, 4, 5, 14] (by decide) rfl
    have hFc := va_free (wc := [(ma, .inr (6, mo_ 0 zk zp za zb zx zy (nI (gat_ kn xs ys SN PA PT).length) zf zt zw zm zh xB yB dB fB zz cB zo zu)), (zw, .inl (cI, 4096, .inl wA)), (zk, .inl (cI, 2, .inl kn)), (zp, .inl (cI, 2, .inl pt)), (zh, .inl (cZ, 2, .inl (lkH_ kn xs ys SN PA PT ha)))]) hD hS hA [0, 12, 4, 5, 14] rfl
    refine va_calli (va_runV (As := [.int (nI sh)]) (rest := []) ⟨hx, hb, hml, hown, hts⟩ (kX6_insideOf l g cI cJ cZ H.size ma 0 xB yB dB fB cB zk zp za zb zx zy zf zt zw zm zh zz zo zu fA tA wA kn pt (lkH_ kn xs ys SN PA PT ha) (gat_ kn xs ys SN PA PT) sh (PT sh) hsh hl1 hm3 hmb hs3.1 hs3.2.2.1) (cwV 1 hts gX6_dimension_X6_insideOf rfl rfl rfl (by decide +kernel) ⟨Nat.le_of_ble_eq_true rfl, Nat.le_of_ble_eq_true rfl⟩) (pv_ hK hPc hDc (va_recv hK hPc (ci := 6) (q0 := 0) rfl rfl)) rfl rfl hl.1 rfl (lv_room (Nat.le_of_ble_eq_true rfl)) dX6_dimension_24 ⟨Nat.zero_le _, Nat.zero_le _⟩) hS (fun q _ h => hFc q h) hFc (fun r2 u t H1 locs ht hvm hw2 hB hz1 hk1 hS => ?_)
    obtain ⟨hP1, hK1, hD1⟩ := hB
    rw [ht] at hP1
    obtain ⟨hP, hD⟩ := va_join (wr := [(zo, .inl (cJ, 12400, .inr (.inl oA))), (zu, .inl (cJ, 12400, .inr (.inl uA))), (zz, .inl (cJ, 192, .inr (.inl zA))), (za, .inl (cI, 2, .inl pa)), (zb, .inl (cI, 2050, .inl bg)), (zx, .inl (cI, 4096, .inl xs)), (zy, .inl (cI, 4096, .inl ys)), (zf, .inl (cI, 4096, .inl fA)), (zt, .inl (cI, 4096, .inl tA)), (zm, .inl (cI, 9, .inl (lkM_ kn xs ys SN PA PT mx)))]) (w1 := [(ma, .inr (6, mo_ 0 zk zp za zb zx zy (nI (gat_ kn xs ys SN PA PT).length) zf zt zw zm zh xB yB dB fB zz cB zo zu)), (zw, .inl (cI, 4096, .inl wA)), (zk, .inl (cI, 2, .inl kn)), (zp, .inl (cI, 2, .inl pt)), (zh, .inl (cZ, 2, .inl (lkH_ kn xs ys SN PA PT ha)))]) hP hD [0, 12, 4, 5, 14] [1, 2, 3, 6, 7, 8, 9, 10, 11, 13] rfl rfl (by decide) (by decide) hk1 hFc hP1 hD1
    clear hPc hDc hFc hP1 hD1 hK1 hk1 hz1 hvm ht
    generalize H1 = H at hP hS ⊢
    have hP : va_P g vwCl [(zo, .inl (cJ, 12400, .inr (.inl oA))), (zu, .inl (cJ, 12400, .inr (.inl uA))), (zz, .inl (cJ, 192, .inr (.inl zA))), (za, .inl (cI, 2, .inl pa)), (zb, .inl (cI, 2050, .inl bg)), (zx, .inl (cI, 4096, .inl xs)), (zy, .inl (cI, 4096, .inl ys)), (zf, .inl (cI, 4096, .inl fA)), (zt, .inl (cI, 4096, .inl tA)), (zm, .inl (cI, 9, .inl (lkM_ kn xs ys SN PA PT mx))), (ma, .inr (6, mo_ 0 zk zp za zb zx zy (nI (gat_ kn xs ys SN PA PT).length) zf zt zw zm zh xB yB dB fB zz cB zo zu)), (zw, .inl (cI, 4096, .inl wA)), (zk, .inl (cI, 2, .inl kn)), (zp, .inl (cI, 2, .inl pt)), (zh, .inl (cZ, 2, .inl (lkH_ kn xs ys SN PA PT ha)))] H := hP
    have hD : va_D A [(zo, .inl (cJ, 12400, .inr (.inl oA))), (zu, .inl (cJ, 12400, .inr (.inl uA))), (zz, .inl (cJ, 192, .inr (.inl zA))), (za, .inl (cI, 2, .inl pa)), (zb, .inl (cI, 2050, .inl bg)), (zx, .inl (cI, 4096, .inl xs)), (zy, .inl (cI, 4096, .inl ys)), (zf, .inl (cI, 4096, .inl fA)), (zt, .inl (cI, 4096, .inl tA)), (zm, .inl (cI, 9, .inl (lkM_ kn xs ys SN PA PT mx))), (ma, .inr (6, mo_ 0 zk zp za zb zx zy (nI (gat_ kn xs ys SN PA PT).length) zf zt zw zm zh xB yB dB fB zz cB zo zu)), (zw, .inl (cI, 4096, .inl wA)), (zk, .inl (cI, 2, .inl kn)), (zp, .inl (cI, 2, .inl pt)), (zh, .inl (cZ, 2, .inl (lkH_ kn xs ys SN PA PT ha)))] := hD
    refine lv_istore_n (lv' := [(2, .int r2), (0, .ref ma), (1, .int (nI sh))]) hx hb dX6_dimension_27 rfl hl (by decide) rfl (fun ls hl => ?_)
    refine lv_iload_n hx hb dX6_dimension_28 rfl (lv_at hl 0 rfl) ?_
    refine lv_if_ge (tgt := 44) hx hb dX6_dimension_29 (by decide) (fun c2 => ?_) (fun c2 => ?_)
    · refine lv_iload_n hx hb dX6_dimension_44 rfl (lv_at hl 0 rfl) ?_
      have hP9 := hP.sub (ws' := [(ma, .inr (6, mo_ 0 zk zp za zb zx zy (nI (gat_ kn xs ys SN PA PT).length) zf zt zw zm zh xB yB dB fB zz cB zo zu)), (zo, .inl (cJ, 12400, .inr (.inl oA))), (zu, .inl (cJ, 12400, .inr (.inl uA))), (zz, .inl (cJ, 192, .inr (.inl zA))), (zk, .inl (cI, 2, .inl kn)), (zp, .inl (cI, 2, .inl pt)), (za, .inl (cI, 2, .inl pa)), (zb, .inl (cI, 2050, .inl bg)), (zx, .inl (cI, 4096, .inl xs)), (zy, .inl (cI, 4096, .inl ys)), (zf, .inl (cI, 4096, .inl fA)), (zt, .inl (cI, 4096, .inl tA)), (zw, .inl (cI, 4096, .inl wA)), (zm, .inl (cI, 9, .inl (lkM_ kn xs ys SN PA PT mx))), (zh, .inl (cZ, 2, .inl (lkH_ kn xs ys SN PA PT ha)))]) [10, 0, 1, 2, 12, 13, 3, 4, 5, 6, 7, 8, 11, 9, 14] rfl
      have hD9 := hD.sub (ws' := [(ma, .inr (6, mo_ 0 zk zp za zb zx zy (nI (gat_ kn xs ys SN PA PT).length) zf zt zw zm zh xB yB dB fB zz cB zo zu)), (zo, .inl (cJ, 12400, .inr (.inl oA))), (zu, .inl (cJ, 12400, .inr (.inl uA))), (zz, .inl (cJ, 192, .inr (.inl zA))), (zk, .inl (cI, 2, .inl kn)), (zp, .inl (cI, 2, .inl pt)), (za, .inl (cI, 2, .inl pa)), (zb, .inl (cI, 2050, .inl bg)), (zx, .inl (cI, 4096, .inl xs)), (zy, .inl (cI, 4096, .inl ys)), (zf, .inl (cI, 4096, .inl fA)), (zt, .inl (cI, 4096, .inl tA)), (zw, .inl (cI, 4096, .inl wA)), (zm, .inl (cI, 9, .inl (lkM_ kn xs ys SN PA PT mx))), (zh, .inl (cZ, 2, .inl (lkH_ kn xs ys SN PA PT ha)))]) [10, 0, 1, 2, 12, 13, 3, 4, 5, 6, 7, 8, 11, 9, 14] (by decide) rfl
      exact W.iret (v := r2) hx hb hr (fun t ht hW => ⟨⟨r2, 0, rfl, ⟨fun h => absurd h n1, fun s2 h2 e2 => ⟨rfl, by have e3 := sh_u hsh h2 e2; subst e3; rw [← hw2]; exact (if_neg (fun h => Int32.not_lt.mpr c2 h.1)).symm⟩⟩, nI (gat_ kn xs ys SN PA PT).length, xB, yB, dB, fB, cB, fA, tA, wA, lkM_ kn xs ys SN PA PT mx, lkH_ kn xs ys SN PA PT ha, zA, oA, uA, by rw [ht]; exact hP9, va_K.moved hW.alike hK, hD9⟩, hS.F ht⟩) hS.2.2 dX6_dimension_45
    · refine lv_aload_n hx hb dX6_dimension_32 rfl (lv_at hl 1 rfl) ?_
      refine lv_iload_n hx hb dX6_dimension_33 rfl (lv_at hl 2 rfl) ?_
      have hPc := hP.sub (ws' := [(ma, .inr (6, mo_ 0 zk zp za zb zx zy (nI (gat_ kn xs ys SN PA PT).length) zf zt zw zm zh xB yB dB fB zz cB zo zu)), (zw, .inl (cI, 4096, .inl wA))]) [10, 11] rfl
      have hDc := hD.sub (ws' := [(ma, .inr (6, mo_ 0 zk zp za zb zx zy (nI (gat_ kn xs ys SN PA PT).length) zf zt zw zm zh xB yB dB fB zz cB zo zu)), (zw, .inl (cI, 4096, .inl wA))]) [10, 11] (by decide) rfl
      have hFc := va_free (wc := [(ma, .inr (6, mo_ 0 zk zp za zb zx zy (nI (gat_ kn xs ys SN PA PT).length) zf zt zw zm zh xB yB dB fB zz cB zo zu)), (zw, .inl (cI, 4096, .inl wA))]) hD hS hA [10, 11] rfl
      refine va_calli (va_runV (As := [.int (nI sh)]) (rest := []) ⟨hx, hb, hml, hown, hts⟩ (kX6_hasSegments l g cI cJ cZ H.size ma 0 xB yB dB fB cB zk zp za zb zx zy zf zt zw zm zh zz zo zu fA tA wA (gat_ kn xs ys SN PA PT) sh hsh hl1 hm3 hmb) (cwV 1 hts gX6_dimension_X6_hasSegments rfl rfl rfl (by decide +kernel) ⟨Nat.le_of_ble_eq_true rfl, Nat.le_of_ble_eq_true rfl⟩) (pv_ hK hPc hDc (va_recv hK hPc (ci := 6) (q0 := 0) rfl rfl)) rfl rfl hl.1 rfl (lv_room (Nat.le_of_ble_eq_true rfl)) dX6_dimension_34 ⟨Nat.zero_le _, Nat.zero_le _⟩) hS (fun q _ h => hFc q h) hFc (fun r3 u t H1 locs ht hvm hw3 hB hz1 hk1 hS => ?_)
      obtain ⟨hP1, hK1, hD1⟩ := hB
      rw [ht] at hP1
      obtain ⟨hP, hD⟩ := va_join (wr := [(zo, .inl (cJ, 12400, .inr (.inl oA))), (zu, .inl (cJ, 12400, .inr (.inl uA))), (zz, .inl (cJ, 192, .inr (.inl zA))), (za, .inl (cI, 2, .inl pa)), (zb, .inl (cI, 2050, .inl bg)), (zx, .inl (cI, 4096, .inl xs)), (zy, .inl (cI, 4096, .inl ys)), (zf, .inl (cI, 4096, .inl fA)), (zt, .inl (cI, 4096, .inl tA)), (zm, .inl (cI, 9, .inl (lkM_ kn xs ys SN PA PT mx))), (zk, .inl (cI, 2, .inl kn)), (zp, .inl (cI, 2, .inl pt)), (zh, .inl (cZ, 2, .inl (lkH_ kn xs ys SN PA PT ha)))]) (w1 := [(ma, .inr (6, mo_ 0 zk zp za zb zx zy (nI (gat_ kn xs ys SN PA PT).length) zf zt zw zm zh xB yB dB fB zz cB zo zu)), (zw, .inl (cI, 4096, .inl wA))]) hP hD [10, 11] [0, 1, 2, 3, 4, 5, 6, 7, 8, 9, 12, 13, 14] rfl rfl (by decide) (by decide) hk1 hFc hP1 hD1
      clear hPc hDc hFc hP1 hD1 hK1 hk1 hz1 hvm ht
      generalize H1 = H at hP hS ⊢
      have hP : va_P g vwCl [(zo, .inl (cJ, 12400, .inr (.inl oA))), (zu, .inl (cJ, 12400, .inr (.inl uA))), (zz, .inl (cJ, 192, .inr (.inl zA))), (za, .inl (cI, 2, .inl pa)), (zb, .inl (cI, 2050, .inl bg)), (zx, .inl (cI, 4096, .inl xs)), (zy, .inl (cI, 4096, .inl ys)), (zf, .inl (cI, 4096, .inl fA)), (zt, .inl (cI, 4096, .inl tA)), (zm, .inl (cI, 9, .inl (lkM_ kn xs ys SN PA PT mx))), (zk, .inl (cI, 2, .inl kn)), (zp, .inl (cI, 2, .inl pt)), (zh, .inl (cZ, 2, .inl (lkH_ kn xs ys SN PA PT ha))), (ma, .inr (6, mo_ 0 zk zp za zb zx zy (nI (gat_ kn xs ys SN PA PT).length) zf zt zw zm zh xB yB dB fB zz cB zo zu)), (zw, .inl (cI, 4096, .inl wA))] H := hP
      have hD : va_D A [(zo, .inl (cJ, 12400, .inr (.inl oA))), (zu, .inl (cJ, 12400, .inr (.inl uA))), (zz, .inl (cJ, 192, .inr (.inl zA))), (za, .inl (cI, 2, .inl pa)), (zb, .inl (cI, 2050, .inl bg)), (zx, .inl (cI, 4096, .inl xs)), (zy, .inl (cI, 4096, .inl ys)), (zf, .inl (cI, 4096, .inl fA)), (zt, .inl (cI, 4096, .inl tA)), (zm, .inl (cI, 9, .inl (lkM_ kn xs ys SN PA PT mx))), (zk, .inl (cI, 2, .inl kn)), (zp, .inl (cI, 2, .inl pt)), (zh, .inl (cZ, 2, .inl (lkH_ kn xs ys SN PA PT ha))), (ma, .inr (6, mo_ 0 zk zp za zb zx zy (nI (gat_ kn xs ys SN PA PT).length) zf zt zw zm zh xB yB dB fB zz cB zo zu)), (zw, .inl (cI, 4096, .inl wA))] := hD
      refine lv_if_eq (tgt := 44) hx hb dX6_dimension_37 (by decide) (fun c3 => ?_) (fun c3 => ?_)
      · refine lv_iload_n hx hb dX6_dimension_44 rfl (lv_at hl 0 rfl) ?_
        have hP9 := hP.sub (ws' := [(ma, .inr (6, mo_ 0 zk zp za zb zx zy (nI (gat_ kn xs ys SN PA PT).length) zf zt zw zm zh xB yB dB fB zz cB zo zu)), (zo, .inl (cJ, 12400, .inr (.inl oA))), (zu, .inl (cJ, 12400, .inr (.inl uA))), (zz, .inl (cJ, 192, .inr (.inl zA))), (zk, .inl (cI, 2, .inl kn)), (zp, .inl (cI, 2, .inl pt)), (za, .inl (cI, 2, .inl pa)), (zb, .inl (cI, 2050, .inl bg)), (zx, .inl (cI, 4096, .inl xs)), (zy, .inl (cI, 4096, .inl ys)), (zf, .inl (cI, 4096, .inl fA)), (zt, .inl (cI, 4096, .inl tA)), (zw, .inl (cI, 4096, .inl wA)), (zm, .inl (cI, 9, .inl (lkM_ kn xs ys SN PA PT mx))), (zh, .inl (cZ, 2, .inl (lkH_ kn xs ys SN PA PT ha)))]) [13, 0, 1, 2, 10, 11, 3, 4, 5, 6, 7, 8, 14, 9, 12] rfl
        have hD9 := hD.sub (ws' := [(ma, .inr (6, mo_ 0 zk zp za zb zx zy (nI (gat_ kn xs ys SN PA PT).length) zf zt zw zm zh xB yB dB fB zz cB zo zu)), (zo, .inl (cJ, 12400, .inr (.inl oA))), (zu, .inl (cJ, 12400, .inr (.inl uA))), (zz, .inl (cJ, 192, .inr (.inl zA))), (zk, .inl (cI, 2, .inl kn)), (zp, .inl (cI, 2, .inl pt)), (za, .inl (cI, 2, .inl pa)), (zb, .inl (cI, 2050, .inl bg)), (zx, .inl (cI, 4096, .inl xs)), (zy, .inl (cI, 4096, .inl ys)), (zf, .inl (cI, 4096, .inl fA)), (zt, .inl (cI, 4096, .inl tA)), (zw, .inl (cI, 4096, .inl wA)), (zm, .inl (cI, 9, .inl (lkM_ kn xs ys SN PA PT mx))), (zh, .inl (cZ, 2, .inl (lkH_ kn xs ys SN PA PT ha)))]) [13, 0, 1, 2, 10, 11, 3, 4, 5, 6, 7, 8, 14, 9, 12] (by decide) rfl
        exact W.iret (v := r2) hx hb hr (fun t ht hW => ⟨⟨r2, 0, rfl, ⟨fun h => absurd h n1, fun s2 h2 e2 => ⟨rfl, by have e3 := sh_u hsh h2 e2; subst e3; rw [← hw2]; exact (if_neg (fun h => h.2 (hw3.symm.trans c3))).symm⟩⟩, nI (gat_ kn xs ys SN PA PT).length, xB, yB, dB, fB, cB, fA, tA, wA, lkM_ kn xs ys SN PA PT mx, lkH_ kn xs ys SN PA PT ha, zA, oA, uA, by rw [ht]; exact hP9, va_K.moved hW.alike hK, hD9⟩, hS.F ht⟩) hS.2.2 dX6_dimension_45
      · refine lv_iconst (v := 1) hx hb dX6_dimension_40 (by decide) ?_
        refine lv_goto (tgt := 45) hx hb dX6_dimension_41 (by decide) ?_
        have hP9 := hP.sub (ws' := [(ma, .inr (6, mo_ 0 zk zp za zb zx zy (nI (gat_ kn xs ys SN PA PT).length) zf zt zw zm zh xB yB dB fB zz cB zo zu)), (zo, .inl (cJ, 12400, .inr (.inl oA))), (zu, .inl (cJ, 12400, .inr (.inl uA))), (zz, .inl (cJ, 192, .inr (.inl zA))), (zk, .inl (cI, 2, .inl kn)), (zp, .inl (cI, 2, .inl pt)), (za, .inl (cI, 2, .inl pa)), (zb, .inl (cI, 2050, .inl bg)), (zx, .inl (cI, 4096, .inl xs)), (zy, .inl (cI, 4096, .inl ys)), (zf, .inl (cI, 4096, .inl fA)), (zt, .inl (cI, 4096, .inl tA)), (zw, .inl (cI, 4096, .inl wA)), (zm, .inl (cI, 9, .inl (lkM_ kn xs ys SN PA PT mx))), (zh, .inl (cZ, 2, .inl (lkH_ kn xs ys SN PA PT ha)))]) [13, 0, 1, 2, 10, 11, 3, 4, 5, 6, 7, 8, 14, 9, 12] rfl
        have hD9 := hD.sub (ws' := [(ma, .inr (6, mo_ 0 zk zp za zb zx zy (nI (gat_ kn xs ys SN PA PT).length) zf zt zw zm zh xB yB dB fB zz cB zo zu)), (zo, .inl (cJ, 12400, .inr (.inl oA))), (zu, .inl (cJ, 12400, .inr (.inl uA))), (zz, .inl (cJ, 192, .inr (.inl zA))), (zk, .inl (cI, 2, .inl kn)), (zp, .inl (cI, 2, .inl pt)), (za, .inl (cI, 2, .inl pa)), (zb, .inl (cI, 2050, .inl bg)), (zx, .inl (cI, 4096, .inl xs)), (zy, .inl (cI, 4096, .inl ys)), (zf, .inl (cI, 4096, .inl fA)), (zt, .inl (cI, 4096, .inl tA)), (zw, .inl (cI, 4096, .inl wA)), (zm, .inl (cI, 9, .inl (lkM_ kn xs ys SN PA PT mx))), (zh, .inl (cZ, 2, .inl (lkH_ kn xs ys SN PA PT ha)))]) [13, 0, 1, 2, 10, 11, 3, 4, 5, 6, 7, 8, 14, 9, 12] (by decide) rfl
        exact W.iret (v := 1) hx hb hr (fun t ht hW => ⟨⟨1, 0, rfl, ⟨fun h => absurd h n1, fun s2 h2 e2 => ⟨rfl, by have e3 := sh_u hsh h2 e2; subst e3; rw [← hw2]; exact (if_pos ⟨Int32.not_le.mp c2, fun h => c3 (hw3.trans h)⟩).symm⟩⟩, nI (gat_ kn xs ys SN PA PT).length, xB, yB, dB, fB, cB, fA, tA, wA, lkM_ kn xs ys SN PA PT mx, lkH_ kn xs ys SN PA PT ha, zA, oA, uA, by rw [ht]; exact hP9, va_K.moved hW.alike hK, hD9⟩, hS.F ht⟩) hS.2.2 dX6_dimension_45
  · refine lv_aload_n hx hb dX6_dimension_12 rfl (lv_at hl 0 rfl) ?_
    refine lv_iconst (v := 1) hx hb dX6_dimension_13 (by decide) ?_
    have hPc := hP.sub (ws' := [(ma, .inr (6, mo_ 0 zk zp za zb zx zy sn zf zt zw zm zh x0 y0 dx dy zz cu zo zu))]) [0] rfl
    have hDc := hD.sub (ws' := [(ma, .inr (6, mo_ 0 zk zp za zb zx zy sn zf zt zw zm zh x0 y0 dx dy zz cu zo zu))]) [0] (by decide) rfl
    have hFc := va_free (wc := [(ma, .inr (6, mo_ 0 zk zp za zb zx zy sn zf zt zw zm zh x0 y0 dx dy zz cu zo zu))]) hD hS hA [0] rfl
    refine va_calli (va_runV (As := [.int 1]) (rest := []) ⟨hx, hb, hml, hown, hts⟩ (kX6_fail l g cI cJ cZ H.size ma 0 sn x0 y0 dx dy cu zk zp za zb zx zy zf zt zw zm zh zz zo zu 1) (cwV 1 hts gX6_dimension_X6_fail rfl rfl rfl (by decide +kernel) ⟨Nat.le_of_ble_eq_true rfl, Nat.le_of_ble_eq_true rfl⟩) (pv_ hK hPc hDc (va_recv hK hPc (ci := 6) (q0 := 0) rfl rfl)) rfl rfl hl.1 rfl (lv_room (Nat.le_of_ble_eq_true rfl)) dX6_dimension_14 ⟨Nat.zero_le _, Nat.zero_le _⟩) hS (fun q _ h => hFc q h) hFc (fun rf u t H1 locs ht hvm hwf hB hz1 hk1 hS => ?_)
    obtain ⟨hP1, hK1, hD1⟩ := hB
    rw [ht] at hP1
    obtain ⟨hP, hD⟩ := va_join (wr := [(zo, .inl (cJ, 12400, .inr (.inl ov))), (zu, .inl (cJ, 12400, .inr (.inl un))), (zz, .inl (cJ, 192, .inr (.inl z))), (zk, .inl (cI, 2, .inl kn)), (zp, .inl (cI, 2, .inl pt)), (za, .inl (cI, 2, .inl pa)), (zb, .inl (cI, 2050, .inl bg)), (zx, .inl (cI, 4096, .inl xs)), (zy, .inl (cI, 4096, .inl ys)), (zf, .inl (cI, 4096, .inl fr)), (zt, .inl (cI, 4096, .inl to1)), (zw, .inl (cI, 4096, .inl wh)), (zm, .inl (cI, 9, .inl mx)), (zh, .inl (cZ, 2, .inl ha))]) (w1 := [(ma, .inr (6, mo_ 1 zk zp za zb zx zy sn zf zt zw zm zh x0 y0 dx dy zz cu zo zu))]) hP hD [0] [1, 2, 3, 4, 5, 6, 7, 8, 9, 10, 11, 12, 13, 14] rfl rfl (by decide) (by decide) hk1 hFc hP1 hD1
    clear hPc hDc hFc hP1 hD1 hK1 hk1 hz1 hvm ht
    generalize H1 = H at hP hS ⊢
    have hP : va_P g vwCl [(zo, .inl (cJ, 12400, .inr (.inl ov))), (zu, .inl (cJ, 12400, .inr (.inl un))), (zz, .inl (cJ, 192, .inr (.inl z))), (zk, .inl (cI, 2, .inl kn)), (zp, .inl (cI, 2, .inl pt)), (za, .inl (cI, 2, .inl pa)), (zb, .inl (cI, 2050, .inl bg)), (zx, .inl (cI, 4096, .inl xs)), (zy, .inl (cI, 4096, .inl ys)), (zf, .inl (cI, 4096, .inl fr)), (zt, .inl (cI, 4096, .inl to1)), (zw, .inl (cI, 4096, .inl wh)), (zm, .inl (cI, 9, .inl mx)), (zh, .inl (cZ, 2, .inl ha)), (ma, .inr (6, mo_ 1 zk zp za zb zx zy sn zf zt zw zm zh x0 y0 dx dy zz cu zo zu))] H := hP
    have hD : va_D A [(zo, .inl (cJ, 12400, .inr (.inl ov))), (zu, .inl (cJ, 12400, .inr (.inl un))), (zz, .inl (cJ, 192, .inr (.inl z))), (zk, .inl (cI, 2, .inl kn)), (zp, .inl (cI, 2, .inl pt)), (za, .inl (cI, 2, .inl pa)), (zb, .inl (cI, 2050, .inl bg)), (zx, .inl (cI, 4096, .inl xs)), (zy, .inl (cI, 4096, .inl ys)), (zf, .inl (cI, 4096, .inl fr)), (zt, .inl (cI, 4096, .inl to1)), (zw, .inl (cI, 4096, .inl wh)), (zm, .inl (cI, 9, .inl mx)), (zh, .inl (cZ, 2, .inl ha)), (ma, .inr (6, mo_ 1 zk zp za zb zx zy sn zf zt zw zm zh x0 y0 dx dy zz cu zo zu))] := hD
    have hP9 := hP.sub (ws' := [(ma, .inr (6, mo_ 1 zk zp za zb zx zy sn zf zt zw zm zh x0 y0 dx dy zz cu zo zu)), (zo, .inl (cJ, 12400, .inr (.inl ov))), (zu, .inl (cJ, 12400, .inr (.inl un))), (zz, .inl (cJ, 192, .inr (.inl z))), (zk, .inl (cI, 2, .inl kn)), (zp, .inl (cI, 2, .inl pt)), (za, .inl (cI, 2, .inl pa)), (zb, .inl (cI, 2050, .inl bg)), (zx, .inl (cI, 4096, .inl xs)), (zy, .inl (cI, 4096, .inl ys)), (zf, .inl (cI, 4096, .inl fr)), (zt, .inl (cI, 4096, .inl to1)), (zw, .inl (cI, 4096, .inl wh)), (zm, .inl (cI, 9, .inl mx)), (zh, .inl (cZ, 2, .inl ha))]) [14, 0, 1, 2, 3, 4, 5, 6, 7, 8, 9, 10, 11, 12, 13] rfl
    have hD9 := hD.sub (ws' := [(ma, .inr (6, mo_ 1 zk zp za zb zx zy sn zf zt zw zm zh x0 y0 dx dy zz cu zo zu)), (zo, .inl (cJ, 12400, .inr (.inl ov))), (zu, .inl (cJ, 12400, .inr (.inl un))), (zz, .inl (cJ, 192, .inr (.inl z))), (zk, .inl (cI, 2, .inl kn)), (zp, .inl (cI, 2, .inl pt)), (za, .inl (cI, 2, .inl pa)), (zb, .inl (cI, 2050, .inl bg)), (zx, .inl (cI, 4096, .inl xs)), (zy, .inl (cI, 4096, .inl ys)), (zf, .inl (cI, 4096, .inl fr)), (zt, .inl (cI, 4096, .inl to1)), (zw, .inl (cI, 4096, .inl wh)), (zm, .inl (cI, 9, .inl mx)), (zh, .inl (cZ, 2, .inl ha))]) [14, 0, 1, 2, 3, 4, 5, 6, 7, 8, 9, 10, 11, 12, 13] (by decide) rfl
    exact W.iret (v := rf) hx hb hr (fun t ht hW => ⟨⟨rf, 1, rfl, ⟨fun _ => rfl, fun s2 h2 e2 => absurd (hw1.symm.trans c1) (by rw [e2]; exact wi_s h2)⟩, sn, x0, y0, dx, dy, cu, fr, to1, wh, mx, ha, z, ov, un, by rw [ht]; exact hP9, va_K.moved hW.alike hK, hD9⟩, hS.F ht⟩) hS.2.2 dX6_dimension_17

theorem ikX6_count_X6 : ∀ w ∈ wsX60, w ∈ wsX6_count := by decide +kernel
set_option maxHeartbeats 1000000 in
set_option maxRecDepth 100000 in
theorem kX6_count (l : Launch) (g : va_G) (cI cJ cZ : ClassId) (sz : Nat) (ma : Nat) (th : Int32) (sn : Int32) (x0 : Int64) (y0 : Int64) (dx : Int64) (dy : Int64) (cu : Int32) (zk : Nat) (zp : Nat) (za : Nat) (zb : Nat) (zx : Nat) (zy : Nat) (zf : Nat) (zt : Nat) (zw : Nat) (zm : Nat) (zh : Nat) (zz : Nat) (zo : Nat) (zu : Nat) (kn : Nat → Int32) (pt : Nat → Int32) (pa : Nat → Int32) (sv : Int32) (wv : Int32)  : Met l yX6_count wsX6_count ({ frames := 2, cells := 0, slots := 0, locals := 42 }) (pc_ g cI cJ cZ [.ref ma, .int sv, .int wv] [(ma, .inr (6, mo_ th zk zp za zb zx zy sn zf zt zw zm zh x0 y0 dx dy zz cu zo zu)), (zk, .inl (cI, 2, .inl kn)), (zp, .inl (cI, 2, .inl pt)), (za, .inl (cI, 2, .inl pa))] sz) (va_Qi (fun (r : Int32) (th2 : Int32) => ((wi_ sv 0 1 = 0 ∨ wi_ wv 0 2 = 0) → th2 = 1) ∧ (∀ sh, sh < 2 → sv = nI sh → ¬ wi_ wv 0 2 = 0 → th2 = 0 ∧ r = if wv = 0 then kn sh else if wv = 1 then pa sh else pt sh)) (fun (th2 : Int32) t => wd_ g cI cJ cZ (va_A [(ma, .inr (6, mo_ th zk zp za zb zx zy sn zf zt zw zm zh x0 y0 dx dy zz cu zo zu)), (zk, .inl (cI, 2, .inl kn)), (zp, .inl (cI, 2, .inl pt)), (za, .inl (cI, 2, .inl pa))] sz) [(ma, .inr (6, mo_ th2 zk zp za zb zx zy sn zf zt zw zm zh x0 y0 dx dy zz cu zo zu)), (zk, .inl (cI, 2, .inl kn)), (zp, .inl (cI, 2, .inl pt)), (za, .inl (cI, 2, .inl pa))] t) (va_A [(ma, .inr (6, mo_ th zk zp za zb zx zy sn zf zt zw zm zh x0 y0 dx dy zz cu zo zu)), (zk, .inl (cI, 2, .inl kn)), (zp, .inl (cI, 2, .inl pt)), (za, .inl (cI, 2, .inl pa))] sz)) (0) (0) (va_A [(ma, .inr (6, mo_ th zk zp za zb zx zy sn zf zt zw zm zh x0 y0 dx dy zz cu zo zu)), (zk, .inl (cI, 2, .inl kn)), (zp, .inl (cI, 2, .inl pt)), (za, .inl (cI, 2, .inl pa))] sz) := by
  refine Met.ofW (cc := cX6_count) (maxL := 3) (ret := (some .int)) (by decide) rfl ?_
  intro p e s m args below meth c s₁ B hml hv
  obtain ⟨rfl, hsz, hP, hK, hD0⟩ := hv
  have hx := B.exec
  have hb := B.bytes
  have hr := B.returns
  have hts := atoms_spec (ws := wsX6_count) B.pre
  have hown : s.vm.findClass RX6 = some m.cls := findClass_of_methodNamed B.named
  have hlocks := B.notSynchronized
  subst hsz
  have hD := hD0.self (sz := s.heap.size)
  generalize hAe : va_A [(ma, .inr (6, mo_ th zk zp za zb zx zy sn zf zt zw zm zh x0 y0 dx dy zz cu zo zu)), (zk, .inl (cI, 2, .inl kn)), (zp, .inl (cI, 2, .inl pt)), (za, .inl (cI, 2, .inl pa))] s.heap.size = A at hD ⊢
  have hA : ∀ q : Nat, s.heap.size ≤ q → A q := fun q h => by rw [← hAe]; exact Or.inr h
  have hS : va_S A s.heap s.heap [] := va_S.rf
  have hP : va_P g vwCl [(ma, .inr (6, mo_ th zk zp za zb zx zy sn zf zt zw zm zh x0 y0 dx dy zz cu zo zu)), (zk, .inl (cI, 2, .inl kn)), (zp, .inl (cI, 2, .inl pt)), (za, .inl (cI, 2, .inl pa))] s.heap := hP
  have hl := lv_entry ([.ref ma, .int sv, .int wv]) (n := 3) (Nat.le_of_ble_eq_true rfl)
  rw [lg_entry_eq]
  generalize (lg_sl ([.ref ma, .int sv, .int wv]) ++ List.replicate (3 - (lg_sl ([.ref ma, .int sv, .int wv])).length) Slot.unset).toArray = ls at hl ⊢
  have hl : lv_has ls 3 [(0, .ref ma), (1, .int sv), (2, .int wv)] := hl
  have hH0 : s.heap = s.heap := rfl
  have hiX6 := ikX6_count_X6
  refine lv_aload_n hx hb dX6_count_0 rfl (lv_at hl 0 rfl) ?_
  refine lv_iconst (v := 0) hx hb dX6_count_1 (by decide) ?_
  refine va_put (D := g) (ci := 6) (v := .int 0) (ty := .int) (C := RX6) (T := TX6) (N := 21) hx hb hts hiX6 tyX6 tyX6_ok nmX6 hown hK hP hD hS 0 rfl rfl 0 (by decide) (hts (.fieldLink RX6 54 "ShapeRelatorModel" "thrown" "I") (List.mem_of_getElem? (i := 1) rfl)) (fun _ h9 => h9) rfl (by decide +kernel) rfl rfl (Nat.le_of_ble_eq_true rfl) dX6_count_2 (fun H locs hP hD hS => ?_)
  have hP : va_P g vwCl [(ma, .inr (6, mo_ 0 zk zp za zb zx zy sn zf zt zw zm zh x0 y0 dx dy zz cu zo zu)), (zk, .inl (cI, 2, .inl kn)), (zp, .inl (cI, 2, .inl pt)), (za, .inl (cI, 2, .inl pa))] H := hP
  have hD : va_D A [(ma, .inr (6, mo_ 0 zk zp za zb zx zy sn zf zt zw zm zh x0 y0 dx dy zz cu zo zu)), (zk, .inl (cI, 2, .inl kn)), (zp, .inl (cI, 2, .inl pt)), (za, .inl (cI, 2, .inl pa))] := hD
  refine lv_iload_n hx hb dX6_count_5 rfl (lv_at hl 1 rfl) ?_
  have hPc := hP.sub (ws' := []) [] rfl
  have hDc := hD.sub (ws' := []) [] (by decide) rfl
  have hFc := va_free (wc := []) hD hS hA [] rfl
  refine va_calli (va_runS (As := [.int sv]) (rest := []) ⟨hx, hb, hml, hown, hts⟩ (kX6_isShape l g cI cJ cZ H.size sv) (va_cwS 1 hts gX6_count_X6_isShape rfl rfl rfl (by decide +kernel) ⟨Nat.le_of_ble_eq_true rfl, Nat.le_of_ble_eq_true rfl⟩) (ps_ hK hPc hDc) rfl rfl hl.1 rfl (lv_room (Nat.le_of_ble_eq_true rfl)) dX6_count_6 ⟨Nat.zero_le _, Nat.zero_le _⟩) hS (fun q _ h => hFc q h) hFc (fun r1 u t H1 locs ht hvm hw1 hB hz1 hk1 hS => ?_)
  obtain ⟨hP1, hK1, hD1⟩ := hB
  rw [ht] at hP1
  obtain ⟨hP, hD⟩ := va_join (wr := [(ma, .inr (6, mo_ 0 zk zp za zb zx zy sn zf zt zw zm zh x0 y0 dx dy zz cu zo zu)), (zk, .inl (cI, 2, .inl kn)), (zp, .inl (cI, 2, .inl pt)), (za, .inl (cI, 2, .inl pa))]) (w1 := []) hP hD [] [0, 1, 2, 3] rfl rfl (by decide) (by decide) hk1 hFc hP1 hD1
  clear hPc hDc hFc hP1 hD1 hK1 hk1 hz1 hvm ht
  generalize H1 = H at hP hS ⊢
  have hP : va_P g vwCl [(ma, .inr (6, mo_ 0 zk zp za zb zx zy sn zf zt zw zm zh x0 y0 dx dy zz cu zo zu)), (zk, .inl (cI, 2, .inl kn)), (zp, .inl (cI, 2, .inl pt)), (za, .inl (cI, 2, .inl pa))] H := hP
  have hD : va_D A [(ma, .inr (6, mo_ 0 zk zp za zb zx zy sn zf zt zw zm zh x0 y0 dx dy zz cu zo zu)), (zk, .inl (cI, 2, .inl kn)), (zp, .inl (cI, 2, .inl pt)), (za, .inl (cI, 2, .inl pa))] := hD
  refine lv_if_eq (tgt := 21) hx hb dX6_count_9 (by decide) (fun c1 => ?_) (fun c1 => ?_)
  · refine lv_aload_n hx hb dX6_count_21 rfl (lv_at hl 0 rfl) ?_
    refine lv_iconst (v := 1) hx hb dX6_count_22 (by decide) ?_
    have hPc := hP.sub (ws' := [(ma, .inr (6, mo_ 0 zk zp za zb zx zy sn zf zt zw zm zh x0 y0 dx dy zz cu zo zu))]) [0] rfl
    have hDc := hD.sub (ws' := [(ma, .inr (6, mo_ 0 zk zp za zb zx zy sn zf zt zw zm zh x0 y0 dx dy zz cu zo zu))]) [0] (by decide) rfl
    have hFc := va_free (wc := [(ma, .inr (6, mo_ 0 zk zp za zb zx zy sn zf zt zw zm zh x0 y0 dx dy zz cu zo zu))]) hD hS hA [0] rfl
    refine va_calli (va_runV (As := [.int 1]) (rest := []) ⟨hx, hb, hml, hown, hts⟩ (kX6_fail l g cI cJ cZ H.size ma 0 sn x0 y0 dx dy cu zk zp za zb zx zy zf zt zw zm zh zz zo zu 1) (cwV 1 hts gX6_count_X6_fail rfl rfl rfl (by decide +kernel) ⟨Nat.le_of_ble_eq_true rfl, Nat.le_of_ble_eq_true rfl⟩) (pv_ hK hPc hDc (va_recv hK hPc (ci := 6) (q0 := 0) rfl rfl)) rfl rfl hl.1 rfl (lv_room (Nat.le_of_ble_eq_true rfl)) dX6_count_23 ⟨Nat.zero_le _, Nat.zero_le _⟩) hS (fun q _ h => hFc q h) hFc (fun rf u t H1 locs ht hvm hwf hB hz1 hk1 hS => ?_)
    obtain ⟨hP1, hK1, hD1⟩ := hB
    rw [ht] at hP1
    obtain ⟨hP, hD⟩ := va_join (wr := [(zk, .inl (cI, 2, .inl kn)), (zp, .inl (cI, 2, .inl pt)), (za, .inl (cI, 2, .inl pa))]) (w1 := [(ma, .inr (6, mo_ 1 zk zp za zb zx zy sn zf zt zw zm zh x0 y0 dx dy zz cu zo zu))]) hP hD [0] [1, 2, 3] rfl rfl (by decide) (by decide) hk1 hFc hP1 hD1
    clear hPc hDc hFc hP1 hD1 hK1 hk1 hz1 hvm ht
    generalize H1 = H at hP hS ⊢
    have hP : va_P g vwCl [(zk, .inl (cI, 2, .inl kn)), (zp, .inl (cI, 2, .inl pt)), (za, .inl (cI, 2, .inl pa)), (ma, .inr (6, mo_ 1 zk zp za zb zx zy sn zf zt zw zm zh x0 y0 dx dy zz cu zo zu))] H := hP
    have hD : va_D A [(zk, .inl (cI, 2, .inl kn)), (zp, .inl (cI, 2, .inl pt)), (za, .inl (cI, 2, .inl pa)), (ma, .inr (6, mo_ 1 zk zp za zb zx zy sn zf zt zw zm zh x0 y0 dx dy zz cu zo zu))] := hD
    have hP9 := hP.sub (ws' := [(ma, .inr (6, mo_ 1 zk zp za zb zx zy sn zf zt zw zm zh x0 y0 dx dy zz cu zo zu)), (zk, .inl (cI, 2, .inl kn)), (zp, .inl (cI, 2, .inl pt)), (za, .inl (cI, 2, .inl pa))]) [3, 0, 1, 2] rfl
    have hD9 := hD.sub (ws' := [(ma, .inr (6, mo_ 1 zk zp za zb zx zy sn zf zt zw zm zh x0 y0 dx dy zz cu zo zu)), (zk, .inl (cI, 2, .inl kn)), (zp, .inl (cI, 2, .inl pt)), (za, .inl (cI, 2, .inl pa))]) [3, 0, 1, 2] (by decide) rfl
    exact W.iret (v := rf) hx hb hr (fun t ht hW => ⟨⟨rf, 1, rfl, ⟨fun _ => rfl, fun s2 h2 e2 => absurd (hw1.symm.trans c1) (by rw [e2]; exact wi_s h2)⟩, by rw [ht]; exact hP9, va_K.moved hW.alike hK, hD9⟩, hS.F ht⟩) hS.2.2 dX6_count_26
  · refine lv_iload_n hx hb dX6_count_12 rfl (lv_at hl 2 rfl) ?_
    refine lv_iconst (v := 0) hx hb dX6_count_13 (by decide) ?_
    refine lv_iconst (v := 2) hx hb dX6_count_14 (by decide) ?_
    have hPc := hP.sub (ws' := []) [] rfl
    have hDc := hD.sub (ws' := []) [] (by decide) rfl
    have hFc := va_free (wc := []) hD hS hA [] rfl
    refine va_calli (va_runS (As := [.int wv, .int 0, .int 2]) (rest := []) ⟨hx, hb, hml, hown, hts⟩ (kX6_within l g cI cJ cZ H.size wv 0 2) (va_cwS 3 hts gX6_count_X6_within rfl rfl rfl (by decide +kernel) ⟨Nat.le_of_ble_eq_true rfl, Nat.le_of_ble_eq_true rfl⟩) (ps_ hK hPc hDc) rfl rfl hl.1 rfl (lv_room (Nat.le_of_ble_eq_true rfl)) dX6_count_15 ⟨Nat.zero_le _, Nat.zero_le _⟩) hS (fun q _ h => hFc q h) hFc (fun r2 u t H1 locs ht hvm hw2 hB hz1 hk1 hS => ?_)
    obtain ⟨hP1, hK1, hD1⟩ := hB
    rw [ht] at hP1
    obtain ⟨hP, hD⟩ := va_join (wr := [(ma, .inr (6, mo_ 0 zk zp za zb zx zy sn zf zt zw zm zh x0 y0 dx dy zz cu zo zu)), (zk, .inl (cI, 2, .inl kn)), (zp, .inl (cI, 2, .inl pt)), (za, .inl (cI, 2, .inl pa))]) (w1 := []) hP hD [] [0, 1, 2, 3] rfl rfl (by decide) (by decide) hk1 hFc hP1 hD1
    clear hPc hDc hFc hP1 hD1 hK1 hk1 hz1 hvm ht
    generalize H1 = H at hP hS ⊢
    have hP : va_P g vwCl [(ma, .inr (6, mo_ 0 zk zp za zb zx zy sn zf zt zw zm zh x0 y0 dx dy zz cu zo zu)), (zk, .inl (cI, 2, .inl kn)), (zp, .inl (cI, 2, .inl pt)), (za, .inl (cI, 2, .inl pa))] H := hP
    have hD : va_D A [(ma, .inr (6, mo_ 0 zk zp za zb zx zy sn zf zt zw zm zh x0 y0 dx dy zz cu zo zu)), (zk, .inl (cI, 2, .inl kn)), (zp, .inl (cI, 2, .inl pt)), (za, .inl (cI, 2, .inl pa))] := hD
    refine lv_if_ne (tgt := 27) hx hb dX6_count_18 (by decide) (fun c2 => ?_) (fun c2 => ?_)
    · have n1 : ¬ wi_ sv 0 1 = 0 := fun h => c1 (hw1.trans h)
      have n2 : ¬ wi_ wv 0 2 = 0 := fun h => c2 (hw2.trans h)
      obtain ⟨sh, hsh, esh⟩ := sh_w n1
      subst esh
      have hl : lv_has ls 3 [(0, .ref ma), (1, .int (nI sh)), (2, .int wv)] := hl
      refine lv_iload_n hx hb dX6_count_27 rfl (lv_at hl 2 rfl) ?_
      refine lv_if_ne (tgt := 40) hx hb dX6_count_28 (by decide) (fun c3 => ?_) (fun c3 => ?_)
      · refine lv_iload_n hx hb dX6_count_40 rfl (lv_at hl 2 rfl) ?_
        refine lv_iconst (v := 1) hx hb dX6_count_41 (by decide) ?_
        refine lv_icmp_ne (tgt := 54) hx hb dX6_count_42 (by decide) (fun c4 => ?_) (fun c4 => ?_)
        · refine lv_aload_n hx hb dX6_count_54 rfl (lv_at hl 0 rfl) ?_
          refine va_get (D := g) (ci := 6) (v := .ref zp) (C := RX6) (T := TX6) (N := 21) hx hb hts hiX6 hown hK hP 0 rfl rfl 2 (by decide) (hts (.fieldLink RX6 13 "ShapeRelatorModel" "points" "[I") (List.mem_of_getElem? (i := 4) rfl)) (fun _ h9 => h9) rfl dX6_count_55 ?_
          refine lv_iload_n hx hb dX6_count_58 rfl (lv_at hl 1 rfl) ?_
          refine va_iald (D := g) hx hb hK hP 2 0 rfl rfl (vp_in_nI (show sh < 2 by omega) (by omega)) dX6_count_59 ?_
          refine tpi_ (y := (pt sh)) (by rw [nI_clamp (by omega)]) ?_
          have hP9 := hP.sub (ws' := [(ma, .inr (6, mo_ 0 zk zp za zb zx zy sn zf zt zw zm zh x0 y0 dx dy zz cu zo zu)), (zk, .inl (cI, 2, .inl kn)), (zp, .inl (cI, 2, .inl pt)), (za, .inl (cI, 2, .inl pa))]) [0, 1, 2, 3] rfl
          have hD9 := hD.sub (ws' := [(ma, .inr (6, mo_ 0 zk zp za zb zx zy sn zf zt zw zm zh x0 y0 dx dy zz cu zo zu)), (zk, .inl (cI, 2, .inl kn)), (zp, .inl (cI, 2, .inl pt)), (za, .inl (cI, 2, .inl pa))]) [0, 1, 2, 3] (by decide) rfl
          exact W.iret (v := (pt sh)) hx hb hr (fun t ht hW => ⟨⟨pt sh, 0, rfl, ⟨fun h => absurd h (fun q => q.elim n1 n2), fun s2 h2 e2 _ => ⟨rfl, by have e3 := sh_u hsh h2 e2; subst e3; rw [if_neg c3, if_neg c4]⟩⟩, by rw [ht]; exact hP9, va_K.moved hW.alike hK, hD9⟩, hS.F ht⟩) hS.2.2 dX6_count_60
        · refine lv_aload_n hx hb dX6_count_45 rfl (lv_at hl 0 rfl) ?_
          refine va_get (D := g) (ci := 6) (v := .ref za) (C := RX6) (T := TX6) (N := 21) hx hb hts hiX6 hown hK hP 0 rfl rfl 3 (by decide) (hts (.fieldLink RX6 16 "ShapeRelatorModel" "parts" "[I") (List.mem_of_getElem? (i := 3) rfl)) (fun _ h9 => h9) rfl dX6_count_46 ?_
          refine lv_iload_n hx hb dX6_count_49 rfl (lv_at hl 1 rfl) ?_
          refine va_iald (D := g) hx hb hK hP 3 0 rfl rfl (vp_in_nI (show sh < 2 by omega) (by omega)) dX6_count_50 ?_
          refine tpi_ (y := (pa sh)) (by rw [nI_clamp (by omega)]) ?_
          refine lv_goto (tgt := 60) hx hb dX6_count_51 (by decide) ?_
          have hP9 := hP.sub (ws' := [(ma, .inr (6, mo_ 0 zk zp za zb zx zy sn zf zt zw zm zh x0 y0 dx dy zz cu zo zu)), (zk, .inl (cI, 2, .inl kn)), (zp, .inl (cI, 2, .inl pt)), (za, .inl (cI, 2, .inl pa))]) [0, 1, 2, 3] rfl
          have hD9 := hD.sub (ws' := [(ma, .inr (6, mo_ 0 zk zp za zb zx zy sn zf zt zw zm zh x0 y0 dx dy zz cu zo zu)), (zk, .inl (cI, 2, .inl kn)), (zp, .inl (cI, 2, .inl pt)), (za, .inl (cI, 2, .inl pa))]) [0, 1, 2, 3] (by decide) rfl
          exact W.iret (v := (pa sh)) hx hb hr (fun t ht hW => ⟨⟨pa sh, 0, rfl, ⟨fun h => absurd h (fun q => q.elim n1 n2), fun s2 h2 e2 _ => ⟨rfl, by have e3 := sh_u hsh h2 e2; subst e3; rw [if_neg c3, if_pos c4]⟩⟩, by rw [ht]; exact hP9, va_K.moved hW.alike hK, hD9⟩, hS.F ht⟩) hS.2.2 dX6_count_60
      · refine lv_aload_n hx hb dX6_count_31 rfl (lv_at hl 0 rfl) ?_
        refine va_get (D := g) (ci := 6) (v := .ref zk) (C := RX6) (T := TX6) (N := 21) hx hb hts hiX6 hown hK hP 0 rfl rfl 1 (by decide) (hts (.fieldLink RX6 7 "ShapeRelatorModel" "kinds" "[I") (List.mem_of_getElem? (i := 2) rfl)) (fun _ h9 => h9) rfl dX6_count_32 ?_
        refine lv_iload_n hx hb dX6_count_35 rfl (lv_at hl 1 rfl) ?_
        refine va_iald (D := g) hx hb hK hP 1 0 rfl rfl (vp_in_nI (show sh < 2 by omega) (by omega)) dX6_count_36 ?_
        refine tpi_ (y := (kn sh)) (by rw [nI_clamp (by omega)]) ?_
        refine lv_goto (tgt := 60) hx hb dX6_count_37 (by decide) ?_
        have hP9 := hP.sub (ws' := [(ma, .inr (6, mo_ 0 zk zp za zb zx zy sn zf zt zw zm zh x0 y0 dx dy zz cu zo zu)), (zk, .inl (cI, 2, .inl kn)), (zp, .inl (cI, 2, .inl pt)), (za, .inl (cI, 2, .inl pa))]) [0, 1, 2, 3] rfl
        have hD9 := hD.sub (ws' := [(ma, .inr (6, mo_ 0 zk zp za zb zx zy sn zf zt zw zm zh x0 y0 dx dy zz cu zo zu)), (zk, .inl (cI, 2, .inl kn)), (zp, .inl (cI, 2, .inl pt)), (za, .inl (cI, 2, .inl pa))]) [0, 1, 2, 3] (by decide) rfl
        exact W.iret (v := (kn sh)) hx hb hr (fun t ht hW => ⟨⟨kn sh, 0, rfl, ⟨fun h => absurd h (fun q => q.elim n1 n2), fun s2 h2 e2 _ => ⟨rfl, by have e3 := sh_u hsh h2 e2; subst e3; rw [if_pos c3]⟩⟩, by rw [ht]; exact hP9, va_K.moved hW.alike hK, hD9⟩, hS.F ht⟩) hS.2.2 dX6_count_60
    · refine lv_aload_n hx hb dX6_count_21 rfl (lv_at hl 0 rfl) ?_
      refine lv_iconst (v := 1) hx hb dX6_count_22 (by decide) ?_
      have hPc := hP.sub (ws' := [(ma, .inr (6, mo_ 0 zk zp za zb zx zy sn zf zt zw zm zh x0 y0 dx dy zz cu zo zu))]) [0] rfl
      have hDc := hD.sub (ws' := [(ma, .inr (6, mo_ 0 zk zp za zb zx zy sn zf zt zw zm zh x0 y0 dx dy zz cu zo zu))]) [0] (by decide) rfl
      have hFc := va_free (wc := [(ma, .inr (6, mo_ 0 zk zp za zb zx zy sn zf zt zw zm zh x0 y0 dx dy zz cu zo zu))]) hD hS hA [0] rfl
      refine va_calli (va_runV (As := [.int 1]) (rest := []) ⟨hx, hb, hml, hown, hts⟩ (kX6_fail l g cI cJ cZ H.size ma 0 sn x0 y0 dx dy cu zk zp za zb zx zy zf zt zw zm zh zz zo zu 1) (cwV 1 hts gX6_count_X6_fail rfl rfl rfl (by decide +kernel) ⟨Nat.le_of_ble_eq_true rfl, Nat.le_of_ble_eq_true rfl⟩) (pv_ hK hPc hDc (va_recv hK hPc (ci := 6) (q0 := 0) rfl rfl)) rfl rfl hl.1 rfl (lv_room (Nat.le_of_ble_eq_true rfl)) dX6_count_23 ⟨Nat.zero_le _, Nat.zero_le _⟩) hS (fun q _ h => hFc q h) hFc (fun rf u t H1 locs ht hvm hwf hB hz1 hk1 hS => ?_)
      obtain ⟨hP1, hK1, hD1⟩ := hB
      rw [ht] at hP1
      obtain ⟨hP, hD⟩ := va_join (wr := [(zk, .inl (cI, 2, .inl kn)), (zp, .inl (cI, 2, .inl pt)), (za, .inl (cI, 2, .inl pa))]) (w1 := [(ma, .inr (6, mo_ 1 zk zp za zb zx zy sn zf zt zw zm zh x0 y0 dx dy zz cu zo zu))]) hP hD [0] [1, 2, 3] rfl rfl (by decide) (by decide) hk1 hFc hP1 hD1
      clear hPc hDc hFc hP1 hD1 hK1 hk1 hz1 hvm ht
      generalize H1 = H at hP hS ⊢
      have hP : va_P g vwCl [(zk, .inl (cI, 2, .inl kn)), (zp, .inl (cI, 2, .inl pt)), (za, .inl (cI, 2, .inl pa)), (ma, .inr (6, mo_ 1 zk zp za zb zx zy sn zf zt zw zm zh x0 y0 dx dy zz cu zo zu))] H := hP
      have hD : va_D A [(zk, .inl (cI, 2, .inl kn)), (zp, .inl (cI, 2, .inl pt)), (za, .inl (cI, 2, .inl pa)), (ma, .inr (6, mo_ 1 zk zp za zb zx zy sn zf zt zw zm zh x0 y0 dx dy zz cu zo zu))] := hD
      have hP9 := hP.sub (ws' := [(ma, .inr (6, mo_ 1 zk zp za zb zx zy sn zf zt zw zm zh x0 y0 dx dy zz cu zo zu)), (zk, .inl (cI, 2, .inl kn)), (zp, .inl (cI, 2, .inl pt)), (za, .inl (cI, 2, .inl pa))]) [3, 0, 1, 2] rfl
      have hD9 := hD.sub (ws' := [(ma, .inr (6, mo_ 1 zk zp za zb zx zy sn zf zt zw zm zh x0 y0 dx dy zz cu zo zu)), (zk, .inl (cI, 2, .inl kn)), (zp, .inl (cI, 2, .inl pt)), (za, .inl (cI, 2, .inl pa))]) [3, 0, 1, 2] (by decide) rfl
      exact W.iret (v := rf) hx hb hr (fun t ht hW => ⟨⟨rf, 1, rfl, ⟨fun _ => rfl, fun s2 h2 e2 h3 => absurd (hw2.symm.trans c2) h3⟩, by rw [ht]; exact hP9, va_K.moved hW.alike hK, hD9⟩, hS.F ht⟩) hS.2.2 dX6_count_26

theorem ikX6_shape_X6 : ∀ w ∈ wsX60, w ∈ wsX6_shape := by decide +kernel
set_option maxHeartbeats 1000000 in
set_option maxRecDepth 100000 in
theorem kX6_shape (l : Launch) (g : va_G) (cI cJ cZ : ClassId) (sz : Nat) (ma : Nat) (th : Int32) (sn : Int32) (x0 : Int64) (y0 : Int64) (dx : Int64) (dy : Int64) (cu : Int32) (zk : Nat) (zp : Nat) (za : Nat) (zb : Nat) (zx : Nat) (zy : Nat) (zf : Nat) (zt : Nat) (zw : Nat) (zm : Nat) (zh : Nat) (zz : Nat) (zo : Nat) (zu : Nat) (kn : Nat → Int32) (pt : Nat → Int32) (pa : Nat → Int32) (sv : Int32) (kd : Int32)  : Met l yX6_shape wsX6_shape ({ frames := 2, cells := 0, slots := 0, locals := 42 }) (pc_ g cI cJ cZ [.ref ma, .int sv, .int kd] [(ma, .inr (6, mo_ th zk zp za zb zx zy sn zf zt zw zm zh x0 y0 dx dy zz cu zo zu)), (zk, .inl (cI, 2, .inl kn)), (zp, .inl (cI, 2, .inl pt)), (za, .inl (cI, 2, .inl pa))] sz) (va_Qi (fun (r : Int32) (u : Int32 × (Nat → Int32) × (Nat → Int32) × (Nat → Int32)) => match u with | (th2, kn2, pt2, pa2) => shp_ sv kd kn pt pa r th2 kn2 pt2 pa2) (fun (u : Int32 × (Nat → Int32) × (Nat → Int32) × (Nat → Int32)) t => match u with | (th2, kn2, pt2, pa2) => wd_ g cI cJ cZ (va_A [(ma, .inr (6, mo_ th zk zp za zb zx zy sn zf zt zw zm zh x0 y0 dx dy zz cu zo zu)), (zk, .inl (cI, 2, .inl kn)), (zp, .inl (cI, 2, .inl pt)), (za, .inl (cI, 2, .inl pa))] sz) [(ma, .inr (6, mo_ th2 zk zp za zb zx zy sn zf zt zw zm zh x0 y0 dx dy zz cu zo zu)), (zk, .inl (cI, 2, .inl kn2)), (zp, .inl (cI, 2, .inl pt2)), (za, .inl (cI, 2, .inl pa2))] t) (va_A [(ma, .inr (6, mo_ th zk zp za zb zx zy sn zf zt zw zm zh x0 y0 dx dy zz cu zo zu)), (zk, .inl (cI, 2, .inl kn)), (zp, .inl (cI, 2, .inl pt)), (za, .inl (cI, 2, .inl pa))] sz)) (0) (0) (va_A [(ma, .inr (6, mo_ th zk zp za zb zx zy sn zf zt zw zm zh x0 y0 dx dy zz cu zo zu)), (zk, .inl (cI, 2, .inl kn)), (zp, .inl (cI, 2, .inl pt)), (za, .inl (cI, 2, .inl pa))] sz) := by
  refine Met.ofW (cc := cX6_shape) (maxL := 4) (ret := (some .int)) (by decide) rfl ?_
  intro p e s m args below meth c s₁ B hml hv
  obtain ⟨rfl, hsz, hP, hK, hD0⟩ := hv
  have hx := B.exec
  have hb := B.bytes
  have hr := B.returns
  have hts := atoms_spec (ws := wsX6_shape) B.pre
  have hown : s.vm.findClass RX6 = some m.cls := findClass_of_methodNamed B.named
  have hlocks := B.notSynchronized
  subst hsz
  have hD := hD0.self (sz := s.heap.size)
  generalize hAe : va_A [(ma, .inr (6, mo_ th zk zp za zb zx zy sn zf zt zw zm zh x0 y0 dx dy zz cu zo zu)), (zk, .inl (cI, 2, .inl kn)), (zp, .inl (cI, 2, .inl pt)), (za, .inl (cI, 2, .inl pa))] s.heap.size = A at hD ⊢
  have hA : ∀ q : Nat, s.heap.size ≤ q → A q := fun q h => by rw [← hAe]; exact Or.inr h
  have hS : va_S A s.heap s.heap [] := va_S.rf
  have hP : va_P g vwCl [(ma, .inr (6, mo_ th zk zp za zb zx zy sn zf zt zw zm zh x0 y0 dx dy zz cu zo zu)), (zk, .inl (cI, 2, .inl kn)), (zp, .inl (cI, 2, .inl pt)), (za, .inl (cI, 2, .inl pa))] s.heap := hP
  have hl := lv_entry ([.ref ma, .int sv, .int kd]) (n := 4) (Nat.le_of_ble_eq_true rfl)
  rw [lg_entry_eq]
  generalize (lg_sl ([.ref ma, .int sv, .int kd]) ++ List.replicate (4 - (lg_sl ([.ref ma, .int sv, .int kd])).length) Slot.unset).toArray = ls at hl ⊢
  have hl : lv_has ls 4 [(0, .ref ma), (1, .int sv), (2, .int kd)] := hl
  have hH0 : s.heap = s.heap := rfl
  have hiX6 := ikX6_shape_X6
  refine lv_aload_n hx hb dX6_shape_0 rfl (lv_at hl 0 rfl) ?_
  refine lv_iconst (v := 0) hx hb dX6_shape_1 (by decide) ?_
  refine va_put (D := g) (ci := 6) (v := .int 0) (ty := .int) (C := RX6) (T := TX6) (N := 21) hx hb hts hiX6 tyX6 tyX6_ok nmX6 hown hK hP hD hS 0 rfl rfl 0 (by decide) (hts (.fieldLink RX6 54 "ShapeRelatorModel" "thrown" "I") (List.mem_of_getElem? (i := 1) rfl)) (fun _ h9 => h9) rfl (by decide +kernel) rfl rfl (Nat.le_of_ble_eq_true rfl) dX6_shape_2 (fun H locs hP hD hS => ?_)
  have hP : va_P g vwCl [(ma, .inr (6, mo_ 0 zk zp za zb zx zy sn zf zt zw zm zh x0 y0 dx dy zz cu zo zu)), (zk, .inl (cI, 2, .inl kn)), (zp, .inl (cI, 2, .inl pt)), (za, .inl (cI, 2, .inl pa))] H := hP
  have hD : va_D A [(ma, .inr (6, mo_ 0 zk zp za zb zx zy sn zf zt zw zm zh x0 y0 dx dy zz cu zo zu)), (zk, .inl (cI, 2, .inl kn)), (zp, .inl (cI, 2, .inl pt)), (za, .inl (cI, 2, .inl pa))] := hD
  refine lv_iload_n hx hb dX6_shape_5 rfl (lv_at hl 1 rfl) ?_
  have hPc := hP.sub (ws' := []) [] rfl
  have hDc := hD.sub (ws' := []) [] (by decide) rfl
  have hFc := va_free (wc := []) hD hS hA [] rfl
  refine va_calli (va_runS (As := [.int sv]) (rest := []) ⟨hx, hb, hml, hown, hts⟩ (kX6_isShape l g cI cJ cZ H.size sv) (va_cwS 1 hts gX6_shape_X6_isShape rfl rfl rfl (by decide +kernel) ⟨Nat.le_of_ble_eq_true rfl, Nat.le_of_ble_eq_true rfl⟩) (ps_ hK hPc hDc) rfl rfl hl.1 rfl (lv_room (Nat.le_of_ble_eq_true rfl)) dX6_shape_6 ⟨Nat.zero_le _, Nat.zero_le _⟩) hS (fun q _ h => hFc q h) hFc (fun r1 u t H1 locs ht hvm hw1 hB hz1 hk1 hS => ?_)
  obtain ⟨hP1, hK1, hD1⟩ := hB
  rw [ht] at hP1
  obtain ⟨hP, hD⟩ := va_join (wr := [(ma, .inr (6, mo_ 0 zk zp za zb zx zy sn zf zt zw zm zh x0 y0 dx dy zz cu zo zu)), (zk, .inl (cI, 2, .inl kn)), (zp, .inl (cI, 2, .inl pt)), (za, .inl (cI, 2, .inl pa))]) (w1 := []) hP hD [] [0, 1, 2, 3] rfl rfl (by decide) (by decide) hk1 hFc hP1 hD1
  clear hPc hDc hFc hP1 hD1 hK1 hk1 hz1 hvm ht
  generalize H1 = H at hP hS ⊢
  have hP : va_P g vwCl [(ma, .inr (6, mo_ 0 zk zp za zb zx zy sn zf zt zw zm zh x0 y0 dx dy zz cu zo zu)), (zk, .inl (cI, 2, .inl kn)), (zp, .inl (cI, 2, .inl pt)), (za, .inl (cI, 2, .inl pa))] H := hP
  have hD : va_D A [(ma, .inr (6, mo_ 0 zk zp za zb zx zy sn zf zt zw zm zh x0 y0 dx dy zz cu zo zu)), (zk, .inl (cI, 2, .inl kn)), (zp, .inl (cI, 2, .inl pt)), (za, .inl (cI, 2, .inl pa))] := hD
  refine lv_if_ne (tgt := 18) hx hb dX6_shape_9 (by decide) (fun c1 => ?_) (fun c1 => ?_)
  · have n1 : ¬ wi_ sv 0 1 = 0 := fun h => c1 (hw1.trans h)
    refine lv_iload_n hx hb dX6_shape_18 rfl (lv_at hl 2 rfl) ?_
    refine lv_iconst (v := 1) hx hb dX6_shape_19 (by decide) ?_
    refine lv_iconst (v := 3) hx hb dX6_shape_20 (by decide) ?_
    have hPc := hP.sub (ws' := []) [] rfl
    have hDc := hD.sub (ws' := []) [] (by decide) rfl
    have hFc := va_free (wc := []) hD hS hA [] rfl
    refine va_calli (va_runS (As := [.int kd, .int 1, .int 3]) (rest := []) ⟨hx, hb, hml, hown, hts⟩ (kX6_within l g cI cJ cZ H.size kd 1 3) (va_cwS 3 hts gX6_shape_X6_within rfl rfl rfl (by decide +kernel) ⟨Nat.le_of_ble_eq_true rfl, Nat.le_of_ble_eq_true rfl⟩) (ps_ hK hPc hDc) rfl rfl hl.1 rfl (lv_room (Nat.le_of_ble_eq_true rfl)) dX6_shape_21 ⟨Nat.zero_le _, Nat.zero_le _⟩) hS (fun q _ h => hFc q h) hFc (fun r2 u t H1 locs ht hvm hw2 hB hz1 hk1 hS => ?_)
    obtain ⟨hP1, hK1, hD1⟩ := hB
    rw [ht] at hP1
    obtain ⟨hP, hD⟩ := va_join (wr := [(ma, .inr (6, mo_ 0 zk zp za zb zx zy sn zf zt zw zm zh x0 y0 dx dy zz cu zo zu)), (zk, .inl (cI, 2, .inl kn)), (zp, .inl (cI, 2, .inl pt)), (za, .inl (cI, 2, .inl pa))]) (w1 := []) hP hD [] [0, 1, 2, 3] rfl rfl (by decide) (by decide) hk1 hFc hP1 hD1
    clear hPc hDc hFc hP1 hD1 hK1 hk1 hz1 hvm ht
    generalize H1 = H at hP hS ⊢
    have hP : va_P g vwCl [(ma, .inr (6, mo_ 0 zk zp za zb zx zy sn zf zt zw zm zh x0 y0 dx dy zz cu zo zu)), (zk, .inl (cI, 2, .inl kn)), (zp, .inl (cI, 2, .inl pt)), (za, .inl (cI, 2, .inl pa))] H := hP
    have hD : va_D A [(ma, .inr (6, mo_ 0 zk zp za zb zx zy sn zf zt zw zm zh x0 y0 dx dy zz cu zo zu)), (zk, .inl (cI, 2, .inl kn)), (zp, .inl (cI, 2, .inl pt)), (za, .inl (cI, 2, .inl pa))] := hD
    refine lv_if_ne (tgt := 33) hx hb dX6_shape_24 (by decide) (fun c2 => ?_) (fun c2 => ?_)
    · have n2 : ¬ wi_ kd 1 3 = 0 := fun h => c2 (hw2.trans h)
      obtain ⟨sh, hsh, esh⟩ := sh_w n1
      subst esh
      have hl : lv_has ls 4 [(0, .ref ma), (1, .int (nI sh)), (2, .int kd)] := hl
      refine lv_aload_n hx hb dX6_shape_33 rfl (lv_at hl 0 rfl) ?_
      refine va_get (D := g) (ci := 6) (v := .ref zp) (C := RX6) (T := TX6) (N := 21) hx hb hts hiX6 hown hK hP 0 rfl rfl 2 (by decide) (hts (.fieldLink RX6 13 "ShapeRelatorModel" "points" "[I") (List.mem_of_getElem? (i := 2) rfl)) (fun _ h9 => h9) rfl dX6_shape_34 ?_
      refine lv_iload_n hx hb dX6_shape_37 rfl (lv_at hl 1 rfl) ?_
      refine va_iald (D := g) hx hb hK hP 2 0 rfl rfl (vp_in_nI (show sh < 2 by omega) (by omega)) dX6_shape_38 ?_
      refine tpi_ (y := (pt sh)) (by rw [nI_clamp (by omega)]) ?_
      refine lv_istore_n (lv' := [(3, .int (pt sh)), (0, .ref ma), (1, .int (nI sh)), (2, .int kd)]) hx hb dX6_shape_39 rfl hl (by decide) rfl (fun ls hl => ?_)
      refine lv_aload_n hx hb dX6_shape_40 rfl (lv_at hl 1 rfl) ?_
      refine va_get (D := g) (ci := 6) (v := .ref zk) (C := RX6) (T := TX6) (N := 21) hx hb hts hiX6 hown hK hP 0 rfl rfl 1 (by decide) (hts (.fieldLink RX6 7 "ShapeRelatorModel" "kinds" "[I") (List.mem_of_getElem? (i := 3) rfl)) (fun _ h9 => h9) rfl dX6_shape_41 ?_
      refine lv_iload_n hx hb dX6_shape_44 rfl (lv_at hl 2 rfl) ?_
      refine lv_iload_n hx hb dX6_shape_45 rfl (lv_at hl 3 rfl) ?_
      refine va_iast (D := g) hx hb hK hP hD hS 1 0 rfl rfl (vp_in_nI (show sh < 2 by omega) (by decide)) dX6_shape_46 (fun H locs hP hD hS => ?_)
      rw [nI_clamp (show sh < 2 ^ 31 by omega)] at hP hD
      have hP : va_P g vwCl [(ma, .inr (6, mo_ 0 zk zp za zb zx zy sn zf zt zw zm zh x0 y0 dx dy zz cu zo zu)), (zk, .inl (cI, 2, .inl (upd kn sh kd))), (zp, .inl (cI, 2, .inl pt)), (za, .inl (cI, 2, .inl pa))] H := hP
      have hD : va_D A [(ma, .inr (6, mo_ 0 zk zp za zb zx zy sn zf zt zw zm zh x0 y0 dx dy zz cu zo zu)), (zk, .inl (cI, 2, .inl (upd kn sh kd))), (zp, .inl (cI, 2, .inl pt)), (za, .inl (cI, 2, .inl pa))] := hD
      refine lv_aload_n hx hb dX6_shape_47 rfl (lv_at hl 1 rfl) ?_
      refine va_get (D := g) (ci := 6) (v := .ref zp) (C := RX6) (T := TX6) (N := 21) hx hb hts hiX6 hown hK hP 0 rfl rfl 2 (by decide) (hts (.fieldLink RX6 13 "ShapeRelatorModel" "points" "[I") (List.mem_of_getElem? (i := 2) rfl)) (fun _ h9 => h9) rfl dX6_shape_48 ?_
      refine lv_iload_n hx hb dX6_shape_51 rfl (lv_at hl 2 rfl) ?_
      refine lv_iconst (v := 0) hx hb dX6_shape_52 (by decide) ?_
      refine va_iast (D := g) hx hb hK hP hD hS 2 0 rfl rfl (vp_in_nI (show sh < 2 by omega) (by decide)) dX6_shape_53 (fun H locs hP hD hS => ?_)
      rw [nI_clamp (show sh < 2 ^ 31 by omega)] at hP hD
      have hP : va_P g vwCl [(ma, .inr (6, mo_ 0 zk zp za zb zx zy sn zf zt zw zm zh x0 y0 dx dy zz cu zo zu)), (zk, .inl (cI, 2, .inl (upd kn sh kd))), (zp, .inl (cI, 2, .inl (upd pt sh 0))), (za, .inl (cI, 2, .inl pa))] H := hP
      have hD : va_D A [(ma, .inr (6, mo_ 0 zk zp za zb zx zy sn zf zt zw zm zh x0 y0 dx dy zz cu zo zu)), (zk, .inl (cI, 2, .inl (upd kn sh kd))), (zp, .inl (cI, 2, .inl (upd pt sh 0))), (za, .inl (cI, 2, .inl pa))] := hD
      refine lv_aload_n hx hb dX6_shape_54 rfl (lv_at hl 1 rfl) ?_
      refine va_get (D := g) (ci := 6) (v := .ref za) (C := RX6) (T := TX6) (N := 21) hx hb hts hiX6 hown hK hP 0 rfl rfl 3 (by decide) (hts (.fieldLink RX6 16 "ShapeRelatorModel" "parts" "[I") (List.mem_of_getElem? (i := 4) rfl)) (fun _ h9 => h9) rfl dX6_shape_55 ?_
      refine lv_iload_n hx hb dX6_shape_58 rfl (lv_at hl 2 rfl) ?_
      refine lv_iconst (v := 0) hx hb dX6_shape_59 (by decide) ?_
      refine va_iast (D := g) hx hb hK hP hD hS 3 0 rfl rfl (vp_in_nI (show sh < 2 by omega) (by decide)) dX6_shape_60 (fun H locs hP hD hS => ?_)
      rw [nI_clamp (show sh < 2 ^ 31 by omega)] at hP hD
      have hP : va_P g vwCl [(ma, .inr (6, mo_ 0 zk zp za zb zx zy sn zf zt zw zm zh x0 y0 dx dy zz cu zo zu)), (zk, .inl (cI, 2, .inl (upd kn sh kd))), (zp, .inl (cI, 2, .inl (upd pt sh 0))), (za, .inl (cI, 2, .inl (upd pa sh 0)))] H := hP
      have hD : va_D A [(ma, .inr (6, mo_ 0 zk zp za zb zx zy sn zf zt zw zm zh x0 y0 dx dy zz cu zo zu)), (zk, .inl (cI, 2, .inl (upd kn sh kd))), (zp, .inl (cI, 2, .inl (upd pt sh 0))), (za, .inl (cI, 2, .inl (upd pa sh 0)))] := hD
      refine lv_iload_n hx hb dX6_shape_61 rfl (lv_at hl 0 rfl) ?_
      have hP9 := hP.sub (ws' := [(ma, .inr (6, mo_ 0 zk zp za zb zx zy sn zf zt zw zm zh x0 y0 dx dy zz cu zo zu)), (zk, .inl (cI, 2, .inl (upd kn sh kd))), (zp, .inl (cI, 2, .inl (upd pt sh 0))), (za, .inl (cI, 2, .inl (upd pa sh 0)))]) [0, 1, 2, 3] rfl
      have hD9 := hD.sub (ws' := [(ma, .inr (6, mo_ 0 zk zp za zb zx zy sn zf zt zw zm zh x0 y0 dx dy zz cu zo zu)), (zk, .inl (cI, 2, .inl (upd kn sh kd))), (zp, .inl (cI, 2, .inl (upd pt sh 0))), (za, .inl (cI, 2, .inl (upd pa sh 0)))]) [0, 1, 2, 3] (by decide) rfl
      exact W.iret (v := (pt sh)) hx hb hr (fun t ht hW => ⟨⟨pt sh, (0, upd kn sh kd, upd pt sh 0, upd pa sh 0), rfl, ⟨fun h => absurd h n1, fun _ h => absurd h n2, fun s2 h2 e2 _ => by have e3 := sh_u hsh h2 e2; subst e3; exact ⟨rfl, rfl, rfl, rfl, rfl⟩⟩, by rw [ht]; exact hP9, va_K.moved hW.alike hK, hD9⟩, hS.F ht⟩) hS.2.2 dX6_shape_62
    · refine lv_aload_n hx hb dX6_shape_27 rfl (lv_at hl 0 rfl) ?_
      refine lv_iconst (v := 2) hx hb dX6_shape_28 (by decide) ?_
      have hPc := hP.sub (ws' := [(ma, .inr (6, mo_ 0 zk zp za zb zx zy sn zf zt zw zm zh x0 y0 dx dy zz cu zo zu))]) [0] rfl
      have hDc := hD.sub (ws' := [(ma, .inr (6, mo_ 0 zk zp za zb zx zy sn zf zt zw zm zh x0 y0 dx dy zz cu zo zu))]) [0] (by decide) rfl
      have hFc := va_free (wc := [(ma, .inr (6, mo_ 0 zk zp za zb zx zy sn zf zt zw zm zh x0 y0 dx dy zz cu zo zu))]) hD hS hA [0] rfl
      refine va_calli (va_runV (As := [.int 2]) (rest := []) ⟨hx, hb, hml, hown, hts⟩ (kX6_fail l g cI cJ cZ H.size ma 0 sn x0 y0 dx dy cu zk zp za zb zx zy zf zt zw zm zh zz zo zu 2) (cwV 1 hts gX6_shape_X6_fail rfl rfl rfl (by decide +kernel) ⟨Nat.le_of_ble_eq_true rfl, Nat.le_of_ble_eq_true rfl⟩) (pv_ hK hPc hDc (va_recv hK hPc (ci := 6) (q0 := 0) rfl rfl)) rfl rfl hl.1 rfl (lv_room (Nat.le_of_ble_eq_true rfl)) dX6_shape_29 ⟨Nat.zero_le _, Nat.zero_le _⟩) hS (fun q _ h => hFc q h) hFc (fun rf u t H1 locs ht hvm hwf hB hz1 hk1 hS => ?_)
      obtain ⟨hP1, hK1, hD1⟩ := hB
      rw [ht] at hP1
      obtain ⟨hP, hD⟩ := va_join (wr := [(zk, .inl (cI, 2, .inl kn)), (zp, .inl (cI, 2, .inl pt)), (za, .inl (cI, 2, .inl pa))]) (w1 := [(ma, .inr (6, mo_ 2 zk zp za zb zx zy sn zf zt zw zm zh x0 y0 dx dy zz cu zo zu))]) hP hD [0] [1, 2, 3] rfl rfl (by decide) (by decide) hk1 hFc hP1 hD1
      clear hPc hDc hFc hP1 hD1 hK1 hk1 hz1 hvm ht
      generalize H1 = H at hP hS ⊢
      have hP : va_P g vwCl [(zk, .inl (cI, 2, .inl kn)), (zp, .inl (cI, 2, .inl pt)), (za, .inl (cI, 2, .inl pa)), (ma, .inr (6, mo_ 2 zk zp za zb zx zy sn zf zt zw zm zh x0 y0 dx dy zz cu zo zu))] H := hP
      have hD : va_D A [(zk, .inl (cI, 2, .inl kn)), (zp, .inl (cI, 2, .inl pt)), (za, .inl (cI, 2, .inl pa)), (ma, .inr (6, mo_ 2 zk zp za zb zx zy sn zf zt zw zm zh x0 y0 dx dy zz cu zo zu))] := hD
      have hP9 := hP.sub (ws' := [(ma, .inr (6, mo_ 2 zk zp za zb zx zy sn zf zt zw zm zh x0 y0 dx dy zz cu zo zu)), (zk, .inl (cI, 2, .inl kn)), (zp, .inl (cI, 2, .inl pt)), (za, .inl (cI, 2, .inl pa))]) [3, 0, 1, 2] rfl
      have hD9 := hD.sub (ws' := [(ma, .inr (6, mo_ 2 zk zp za zb zx zy sn zf zt zw zm zh x0 y0 dx dy zz cu zo zu)), (zk, .inl (cI, 2, .inl kn)), (zp, .inl (cI, 2, .inl pt)), (za, .inl (cI, 2, .inl pa))]) [3, 0, 1, 2] (by decide) rfl
      exact W.iret (v := rf) hx hb hr (fun t ht hW => ⟨⟨rf, (2, kn, pt, pa), rfl, ⟨fun h => absurd h n1, fun _ _ => ⟨rfl, rfl, rfl, rfl⟩, fun s2 h2 e2 h3 => absurd (hw2.symm.trans c2) h3⟩, by rw [ht]; exact hP9, va_K.moved hW.alike hK, hD9⟩, hS.F ht⟩) hS.2.2 dX6_shape_32
  · refine lv_aload_n hx hb dX6_shape_12 rfl (lv_at hl 0 rfl) ?_
    refine lv_iconst (v := 1) hx hb dX6_shape_13 (by decide) ?_
    have hPc := hP.sub (ws' := [(ma, .inr (6, mo_ 0 zk zp za zb zx zy sn zf zt zw zm zh x0 y0 dx dy zz cu zo zu))]) [0] rfl
    have hDc := hD.sub (ws' := [(ma, .inr (6, mo_ 0 zk zp za zb zx zy sn zf zt zw zm zh x0 y0 dx dy zz cu zo zu))]) [0] (by decide) rfl
    have hFc := va_free (wc := [(ma, .inr (6, mo_ 0 zk zp za zb zx zy sn zf zt zw zm zh x0 y0 dx dy zz cu zo zu))]) hD hS hA [0] rfl
    refine va_calli (va_runV (As := [.int 1]) (rest := []) ⟨hx, hb, hml, hown, hts⟩ (kX6_fail l g cI cJ cZ H.size ma 0 sn x0 y0 dx dy cu zk zp za zb zx zy zf zt zw zm zh zz zo zu 1) (cwV 1 hts gX6_shape_X6_fail rfl rfl rfl (by decide +kernel) ⟨Nat.le_of_ble_eq_true rfl, Nat.le_of_ble_eq_true rfl⟩) (pv_ hK hPc hDc (va_recv hK hPc (ci := 6) (q0 := 0) rfl rfl)) rfl rfl hl.1 rfl (lv_room (Nat.le_of_ble_eq_true rfl)) dX6_shape_14 ⟨Nat.zero_le _, Nat.zero_le _⟩) hS (fun q _ h => hFc q h) hFc (fun rf u t H1 locs ht hvm hwf hB hz1 hk1 hS => ?_)
    obtain ⟨hP1, hK1, hD1⟩ := hB
    rw [ht] at hP1
    obtain ⟨hP, hD⟩ := va_join (wr := [(zk, .inl (cI, 2, .inl kn)), (zp, .inl (cI, 2, .inl pt)), (za, .inl (cI, 2, .inl pa))]) (w1 := [(ma, .inr (6, mo_ 1 zk zp za zb zx zy sn zf zt zw zm zh x0 y0 dx dy zz cu zo zu))]) hP hD [0] [1, 2, 3] rfl rfl (by decide) (by decide) hk1 hFc hP1 hD1
    clear hPc hDc hFc hP1 hD1 hK1 hk1 hz1 hvm ht
    generalize H1 = H at hP hS ⊢
    have hP : va_P g vwCl [(zk, .inl (cI, 2, .inl kn)), (zp, .inl (cI, 2, .inl pt)), (za, .inl (cI, 2, .inl pa)), (ma, .inr (6, mo_ 1 zk zp za zb zx zy sn zf zt zw zm zh x0 y0 dx dy zz cu zo zu))] H := hP
    have hD : va_D A [(zk, .inl (cI, 2, .inl kn)), (zp, .inl (cI, 2, .inl pt)), (za, .inl (cI, 2, .inl pa)), (ma, .inr (6, mo_ 1 zk zp za zb zx zy sn zf zt zw zm zh x0 y0 dx dy zz cu zo zu))] := hD
    have hP9 := hP.sub (ws' := [(ma, .inr (6, mo_ 1 zk zp za zb zx zy sn zf zt zw zm zh x0 y0 dx dy zz cu zo zu)), (zk, .inl (cI, 2, .inl kn)), (zp, .inl (cI, 2, .inl pt)), (za, .inl (cI, 2, .inl pa))]) [3, 0, 1, 2] rfl
    have hD9 := hD.sub (ws' := [(ma, .inr (6, mo_ 1 zk zp za zb zx zy sn zf zt zw zm zh x0 y0 dx dy zz cu zo zu)), (zk, .inl (cI, 2, .inl kn)), (zp, .inl (cI, 2, .inl pt)), (za, .inl (cI, 2, .inl pa))]) [3, 0, 1, 2] (by decide) rfl
    exact W.iret (v := rf) hx hb hr (fun t ht hW => ⟨⟨rf, (1, kn, pt, pa), rfl, ⟨fun _ => ⟨rfl, rfl, rfl, rfl⟩, fun h => absurd (hw1.symm.trans c1) h, fun s2 h2 e2 => absurd (hw1.symm.trans c1) (by rw [e2]; exact wi_s h2)⟩, by rw [ht]; exact hP9, va_K.moved hW.alike hK, hD9⟩, hS.F ht⟩) hS.2.2 dX6_shape_17

theorem ikX6_part_X6 : ∀ w ∈ wsX60, w ∈ wsX6_part := by decide +kernel
set_option maxHeartbeats 1000000 in
set_option maxRecDepth 100000 in
theorem kX6_part (l : Launch) (g : va_G) (cI cJ cZ : ClassId) (sz : Nat) (ma : Nat) (th : Int32) (sn : Int32) (x0 : Int64) (y0 : Int64) (dx : Int64) (dy : Int64) (cu : Int32) (zk : Nat) (zp : Nat) (za : Nat) (zb : Nat) (zx : Nat) (zy : Nat) (zf : Nat) (zt : Nat) (zw : Nat) (zm : Nat) (zh : Nat) (zz : Nat) (zo : Nat) (zu : Nat) (pa : Nat → Int32) (bg : Nat → Int32) (pt : Nat → Int32) (PT : Nat → Nat) (PA : Nat → Nat) (SN : Nat → Nat → Nat) (sv : Int32) (hst : mst_ pt pa bg PT PA SN) : Met l yX6_part wsX6_part ({ frames := 2, cells := 0, slots := 0, locals := 42 }) (pc_ g cI cJ cZ [.ref ma, .int sv] [(ma, .inr (6, mo_ th zk zp za zb zx zy sn zf zt zw zm zh x0 y0 dx dy zz cu zo zu)), (za, .inl (cI, 2, .inl pa)), (zb, .inl (cI, 2050, .inl bg)), (zp, .inl (cI, 2, .inl pt))] sz) (va_Qi (fun (r : Int32) (u : Int32 × (Nat → Int32) × (Nat → Int32)) => match u with | (th2, pa2, bg2) => prt_ sv PT PA pa bg r th2 pa2 bg2) (fun (u : Int32 × (Nat → Int32) × (Nat → Int32)) t => match u with | (th2, pa2, bg2) => wd_ g cI cJ cZ (va_A [(ma, .inr (6, mo_ th zk zp za zb zx zy sn zf zt zw zm zh x0 y0 dx dy zz cu zo zu)), (za, .inl (cI, 2, .inl pa)), (zb, .inl (cI, 2050, .inl bg)), (zp, .inl (cI, 2, .inl pt))] sz) [(ma, .inr (6, mo_ th2 zk zp za zb zx zy sn zf zt zw zm zh x0 y0 dx dy zz cu zo zu)), (za, .inl (cI, 2, .inl pa2)), (zb, .inl (cI, 2050, .inl bg2)), (zp, .inl (cI, 2, .inl pt))] t) (va_A [(ma, .inr (6, mo_ th zk zp za zb zx zy sn zf zt zw zm zh x0 y0 dx dy zz cu zo zu)), (za, .inl (cI, 2, .inl pa)), (zb, .inl (cI, 2050, .inl bg)), (zp, .inl (cI, 2, .inl pt))] sz)) (0) (0) (va_A [(ma, .inr (6, mo_ th zk zp za zb zx zy sn zf zt zw zm zh x0 y0 dx dy zz cu zo zu)), (za, .inl (cI, 2, .inl pa)), (zb, .inl (cI, 2050, .inl bg)), (zp, .inl (cI, 2, .inl pt))] sz) := by
  refine Met.ofW (cc := cX6_part) (maxL := 2) (ret := (some .int)) (by decide) rfl ?_
  intro p e s m args below meth c s₁ B hml hv
  obtain ⟨rfl, hsz, hP, hK, hD0⟩ := hv
  have hx := B.exec
  have hb := B.bytes
  have hr := B.returns
  have hts := atoms_spec (ws := wsX6_part) B.pre
  have hown : s.vm.findClass RX6 = some m.cls := findClass_of_methodNamed B.named
  have hlocks := B.notSynchronized
  subst hsz
  have hD := hD0.self (sz := s.heap.size)
  generalize hAe : va_A [(ma, .inr (6, mo_ th zk zp za zb zx zy sn zf zt zw zm zh x0 y0 dx dy zz cu zo zu)), (za, .inl (cI, 2, .inl pa)), (zb, .inl (cI, 2050, .inl bg)), (zp, .inl (cI, 2, .inl pt))] s.heap.size = A at hD ⊢
  have hA : ∀ q : Nat, s.heap.size ≤ q → A q := fun q h => by rw [← hAe]; exact Or.inr h
  have hS : va_S A s.heap s.heap [] := va_S.rf
  have hP : va_P g vwCl [(ma, .inr (6, mo_ th zk zp za zb zx zy sn zf zt zw zm zh x0 y0 dx dy zz cu zo zu)), (za, .inl (cI, 2, .inl pa)), (zb, .inl (cI, 2050, .inl bg)), (zp, .inl (cI, 2, .inl pt))] s.heap := hP
  have hl := lv_entry ([.ref ma, .int sv]) (n := 2) (Nat.le_of_ble_eq_true rfl)
  rw [lg_entry_eq]
  generalize (lg_sl ([.ref ma, .int sv]) ++ List.replicate (2 - (lg_sl ([.ref ma, .int sv])).length) Slot.unset).toArray = ls at hl ⊢
  have hl : lv_has ls 2 [(0, .ref ma), (1, .int sv)] := hl
  have hH0 : s.heap = s.heap := rfl
  have hiX6 := ikX6_part_X6
  refine lv_aload_n hx hb dX6_part_0 rfl (lv_at hl 0 rfl) ?_
  refine lv_iconst (v := 0) hx hb dX6_part_1 (by decide) ?_
  refine va_put (D := g) (ci := 6) (v := .int 0) (ty := .int) (C := RX6) (T := TX6) (N := 21) hx hb hts hiX6 tyX6 tyX6_ok nmX6 hown hK hP hD hS 0 rfl rfl 0 (by decide) (hts (.fieldLink RX6 54 "ShapeRelatorModel" "thrown" "I") (List.mem_of_getElem? (i := 1) rfl)) (fun _ h9 => h9) rfl (by decide +kernel) rfl rfl (Nat.le_of_ble_eq_true rfl) dX6_part_2 (fun H locs hP hD hS => ?_)
  have hP : va_P g vwCl [(ma, .inr (6, mo_ 0 zk zp za zb zx zy sn zf zt zw zm zh x0 y0 dx dy zz cu zo zu)), (za, .inl (cI, 2, .inl pa)), (zb, .inl (cI, 2050, .inl bg)), (zp, .inl (cI, 2, .inl pt))] H := hP
  have hD : va_D A [(ma, .inr (6, mo_ 0 zk zp za zb zx zy sn zf zt zw zm zh x0 y0 dx dy zz cu zo zu)), (za, .inl (cI, 2, .inl pa)), (zb, .inl (cI, 2050, .inl bg)), (zp, .inl (cI, 2, .inl pt))] := hD
  refine lv_iload_n hx hb dX6_part_5 rfl (lv_at hl 1 rfl) ?_
  have hPc := hP.sub (ws' := []) [] rfl
  have hDc := hD.sub (ws' := []) [] (by decide) rfl
  have hFc := va_free (wc := []) hD hS hA [] rfl
  refine va_calli (va_runS (As := [.int sv]) (rest := []) ⟨hx, hb, hml, hown, hts⟩ (kX6_isShape l g cI cJ cZ H.size sv) (va_cwS 1 hts gX6_part_X6_isShape rfl rfl rfl (by decide +kernel) ⟨Nat.le_of_ble_eq_true rfl, Nat.le_of_ble_eq_true rfl⟩) (ps_ hK hPc hDc) rfl rfl hl.1 rfl (lv_room (Nat.le_of_ble_eq_true rfl)) dX6_part_6 ⟨Nat.zero_le _, Nat.zero_le _⟩) hS (fun q _ h => hFc q h) hFc (fun r1 u t H1 locs ht hvm hw1 hB hz1 hk1 hS => ?_)
  obtain ⟨hP1, hK1, hD1⟩ := hB
  rw [ht] at hP1
  obtain ⟨hP, hD⟩ := va_join (wr := [(ma, .inr (6, mo_ 0 zk zp za zb zx zy sn zf zt zw zm zh x0 y0 dx dy zz cu zo zu)), (za, .inl (cI, 2, .inl pa)), (zb, .inl (cI, 2050, .inl bg)), (zp, .inl (cI, 2, .inl pt))]) (w1 := []) hP hD [] [0, 1, 2, 3] rfl rfl (by decide) (by decide) hk1 hFc hP1 hD1
  clear hPc hDc hFc hP1 hD1 hK1 hk1 hz1 hvm ht
  generalize H1 = H at hP hS ⊢
  have hP : va_P g vwCl [(ma, .inr (6, mo_ 0 zk zp za zb zx zy sn zf zt zw zm zh x0 y0 dx dy zz cu zo zu)), (za, .inl (cI, 2, .inl pa)), (zb, .inl (cI, 2050, .inl bg)), (zp, .inl (cI, 2, .inl pt))] H := hP
  have hD : va_D A [(ma, .inr (6, mo_ 0 zk zp za zb zx zy sn zf zt zw zm zh x0 y0 dx dy zz cu zo zu)), (za, .inl (cI, 2, .inl pa)), (zb, .inl (cI, 2050, .inl bg)), (zp, .inl (cI, 2, .inl pt))] := hD
  refine lv_if_ne (tgt := 18) hx hb dX6_part_9 (by decide) (fun c1 => ?_) (fun c1 => ?_)
  · have n1 : ¬ wi_ sv 0 1 = 0 := fun h => c1 (hw1.trans h)
    obtain ⟨sh, hsh, esh⟩ := sh_w n1
    subst esh
    have hl : lv_has ls 2 [(0, .ref ma), (1, .int (nI sh))] := hl
    obtain ⟨s1, s2, s3, s4, s5⟩ := id (hst sh hsh)
    refine lv_aload_n hx hb dX6_part_18 rfl (lv_at hl 0 rfl) ?_
    refine va_get (D := g) (ci := 6) (v := .ref za) (C := RX6) (T := TX6) (N := 21) hx hb hts hiX6 hown hK hP 0 rfl rfl 3 (by decide) (hts (.fieldLink RX6 16 "ShapeRelatorModel" "parts" "[I") (List.mem_of_getElem? (i := 2) rfl)) (fun _ h9 => h9) rfl dX6_part_19 ?_
    refine lv_iload_n hx hb dX6_part_22 rfl (lv_at hl 1 rfl) ?_
    refine va_iald (D := g) hx hb hK hP 1 0 rfl rfl (vp_in_nI (show sh < 2 by omega) (by omega)) dX6_part_23 ?_
    refine tpi_ (y := (nI (PA sh))) (by rw [nI_clamp (by omega), s2]) ?_
    refine lv_sipush (v := 1024) hx hb dX6_part_24 (by decide) ?_
    refine lv_icmp_ne (tgt := 36) hx hb dX6_part_27 (by decide) (fun c2 => ?_) (fun c2 => ?_)
    · have n2 : ¬ PA sh = 1024 := fun h => c2 (by rw [h]; rfl)
      refine lv_aload_n hx hb dX6_part_36 rfl (lv_at hl 0 rfl) ?_
      refine va_get (D := g) (ci := 6) (v := .ref zb) (C := RX6) (T := TX6) (N := 21) hx hb hts hiX6 hown hK hP 0 rfl rfl 4 (by decide) (hts (.fieldLink RX6 19 "ShapeRelatorModel" "begins" "[I") (List.mem_of_getElem? (i := 3) rfl)) (fun _ h9 => h9) rfl dX6_part_37 ?_
      refine lv_sipush (v := 1025) hx hb dX6_part_40 (by decide) ?_
      refine lv_iload_n hx hb dX6_part_43 rfl (lv_at hl 1 rfl) ?_
      refine lv_imul hx hb dX6_part_44 ?_
      refine lv_aload_n hx hb dX6_part_45 rfl (lv_at hl 0 rfl) ?_
      refine va_get (D := g) (ci := 6) (v := .ref za) (C := RX6) (T := TX6) (N := 21) hx hb hts hiX6 hown hK hP 0 rfl rfl 3 (by decide) (hts (.fieldLink RX6 16 "ShapeRelatorModel" "parts" "[I") (List.mem_of_getElem? (i := 2) rfl)) (fun _ h9 => h9) rfl dX6_part_46 ?_
      refine lv_iload_n hx hb dX6_part_49 rfl (lv_at hl 1 rfl) ?_
      refine va_iald (D := g) hx hb hK hP 1 0 rfl rfl (vp_in_nI (show sh < 2 by omega) (by omega)) dX6_part_50 ?_
      refine tpi_ (y := (nI (PA sh))) (by rw [nI_clamp (by omega), s2]) ?_
      refine lv_iadd hx hb dX6_part_51 ?_
      refine tpi_ (y := (nI (1025 * sh + PA sh))) (ix_ 1025 sh (PA sh)) ?_
      refine lv_aload_n hx hb dX6_part_52 rfl (lv_at hl 0 rfl) ?_
      refine va_get (D := g) (ci := 6) (v := .ref zp) (C := RX6) (T := TX6) (N := 21) hx hb hts hiX6 hown hK hP 0 rfl rfl 2 (by decide) (hts (.fieldLink RX6 13 "ShapeRelatorModel" "points" "[I") (List.mem_of_getElem? (i := 4) rfl)) (fun _ h9 => h9) rfl dX6_part_53 ?_
      refine lv_iload_n hx hb dX6_part_56 rfl (lv_at hl 1 rfl) ?_
      refine va_iald (D := g) hx hb hK hP 3 0 rfl rfl (vp_in_nI (show sh < 2 by omega) (by omega)) dX6_part_57 ?_
      refine tpi_ (y := (nI (PT sh))) (by rw [nI_clamp (by omega), s1]) ?_
      refine va_iast (D := g) hx hb hK hP hD hS 2 0 rfl rfl (vp_in_nI (show 1025 * sh + PA sh < 2050 by omega) (by decide)) dX6_part_58 (fun H locs hP hD hS => ?_)
      rw [nI_clamp (show 1025 * sh + PA sh < 2 ^ 31 by omega)] at hP hD
      have hP : va_P g vwCl [(ma, .inr (6, mo_ 0 zk zp za zb zx zy sn zf zt zw zm zh x0 y0 dx dy zz cu zo zu)), (za, .inl (cI, 2, .inl pa)), (zb, .inl (cI, 2050, .inl (upd bg (1025 * sh + PA sh) (nI (PT sh))))), (zp, .inl (cI, 2, .inl pt))] H := hP
      have hD : va_D A [(ma, .inr (6, mo_ 0 zk zp za zb zx zy sn zf zt zw zm zh x0 y0 dx dy zz cu zo zu)), (za, .inl (cI, 2, .inl pa)), (zb, .inl (cI, 2050, .inl (upd bg (1025 * sh + PA sh) (nI (PT sh))))), (zp, .inl (cI, 2, .inl pt))] := hD
      refine lv_aload_n hx hb dX6_part_59 rfl (lv_at hl 0 rfl) ?_
      refine va_get (D := g) (ci := 6) (v := .ref za) (C := RX6) (T := TX6) (N := 21) hx hb hts hiX6 hown hK hP 0 rfl rfl 3 (by decide) (hts (.fieldLink RX6 16 "ShapeRelatorModel" "parts" "[I") (List.mem_of_getElem? (i := 2) rfl)) (fun _ h9 => h9) rfl dX6_part_60 ?_
      refine lv_iload_n hx hb dX6_part_63 rfl (lv_at hl 1 rfl) ?_
      refine lv_dup2_11 hx hb dX6_part_64 rfl rfl ?_
      refine va_iald (D := g) hx hb hK hP 1 0 rfl rfl (vp_in_nI (show sh < 2 by omega) (by omega)) dX6_part_65 ?_
      refine tpi_ (y := (nI (PA sh))) (by rw [nI_clamp (by omega), s2]) ?_
      refine lv_iconst (v := 1) hx hb dX6_part_66 (by decide) ?_
      refine lv_iadd hx hb dX6_part_67 ?_
      refine tpi_ (y := (nI (PA sh + 1))) ((nI_1 _).symm) ?_
      refine va_iast (D := g) hx hb hK hP hD hS 1 0 rfl rfl (vp_in_nI (show sh < 2 by omega) (by decide)) dX6_part_68 (fun H locs hP hD hS => ?_)
      rw [nI_clamp (show sh < 2 ^ 31 by omega)] at hP hD
      have hP : va_P g vwCl [(ma, .inr (6, mo_ 0 zk zp za zb zx zy sn zf zt zw zm zh x0 y0 dx dy zz cu zo zu)), (za, .inl (cI, 2, .inl (upd pa sh (nI (PA sh + 1))))), (zb, .inl (cI, 2050, .inl (upd bg (1025 * sh + PA sh) (nI (PT sh))))), (zp, .inl (cI, 2, .inl pt))] H := hP
      have hD : va_D A [(ma, .inr (6, mo_ 0 zk zp za zb zx zy sn zf zt zw zm zh x0 y0 dx dy zz cu zo zu)), (za, .inl (cI, 2, .inl (upd pa sh (nI (PA sh + 1))))), (zb, .inl (cI, 2050, .inl (upd bg (1025 * sh + PA sh) (nI (PT sh))))), (zp, .inl (cI, 2, .inl pt))] := hD
      refine lv_aload_n hx hb dX6_part_69 rfl (lv_at hl 0 rfl) ?_
      refine va_get (D := g) (ci := 6) (v := .ref za) (C := RX6) (T := TX6) (N := 21) hx hb hts hiX6 hown hK hP 0 rfl rfl 3 (by decide) (hts (.fieldLink RX6 16 "ShapeRelatorModel" "parts" "[I") (List.mem_of_getElem? (i := 2) rfl)) (fun _ h9 => h9) rfl dX6_part_70 ?_
      refine lv_iload_n hx hb dX6_part_73 rfl (lv_at hl 1 rfl) ?_
      refine va_iald (D := g) hx hb hK hP 1 0 rfl rfl (vp_in_nI (show sh < 2 by omega) (by omega)) dX6_part_74 ?_
      refine tpi_ (y := (nI (PA sh + 1))) (by rw [nI_clamp (by omega), pk_us]) ?_
      have hP9 := hP.sub (ws' := [(ma, .inr (6, mo_ 0 zk zp za zb zx zy sn zf zt zw zm zh x0 y0 dx dy zz cu zo zu)), (za, .inl (cI, 2, .inl (upd pa sh (nI (PA sh + 1))))), (zb, .inl (cI, 2050, .inl (upd bg (1025 * sh + PA sh) (nI (PT sh))))), (zp, .inl (cI, 2, .inl pt))]) [0, 1, 2, 3] rfl
      have hD9 := hD.sub (ws' := [(ma, .inr (6, mo_ 0 zk zp za zb zx zy sn zf zt zw zm zh x0 y0 dx dy zz cu zo zu)), (za, .inl (cI, 2, .inl (upd pa sh (nI (PA sh + 1))))), (zb, .inl (cI, 2050, .inl (upd bg (1025 * sh + PA sh) (nI (PT sh))))), (zp, .inl (cI, 2, .inl pt))]) [0, 1, 2, 3] (by decide) rfl
      exact W.iret (v := (nI (PA sh + 1))) hx hb hr (fun t ht hW => ⟨⟨nI (PA sh + 1), (0, upd pa sh (nI (PA sh + 1)), upd bg (1025 * sh + PA sh) (nI (PT sh))), rfl, ⟨fun h => absurd h n1, fun s7 h2 e2 => by have e3 := sh_u hsh h2 e2; subst e3; exact ⟨fun h => absurd h n2, fun _ => ⟨rfl, rfl, rfl, rfl⟩⟩⟩, by rw [ht]; exact hP9, va_K.moved hW.alike hK, hD9⟩, hS.F ht⟩) hS.2.2 dX6_part_75
    · have n2 : PA sh = 1024 := (nI_eq (b := 1024) (by omega) (by decide)).mp c2
      refine lv_aload_n hx hb dX6_part_30 rfl (lv_at hl 0 rfl) ?_
      refine lv_iconst (v := 2) hx hb dX6_part_31 (by decide) ?_
      have hPc := hP.sub (ws' := [(ma, .inr (6, mo_ 0 zk zp za zb zx zy sn zf zt zw zm zh x0 y0 dx dy zz cu zo zu))]) [0] rfl
      have hDc := hD.sub (ws' := [(ma, .inr (6, mo_ 0 zk zp za zb zx zy sn zf zt zw zm zh x0 y0 dx dy zz cu zo zu))]) [0] (by decide) rfl
      have hFc := va_free (wc := [(ma, .inr (6, mo_ 0 zk zp za zb zx zy sn zf zt zw zm zh x0 y0 dx dy zz cu zo zu))]) hD hS hA [0] rfl
      refine va_calli (va_runV (As := [.int 2]) (rest := []) ⟨hx, hb, hml, hown, hts⟩ (kX6_fail l g cI cJ cZ H.size ma 0 sn x0 y0 dx dy cu zk zp za zb zx zy zf zt zw zm zh zz zo zu 2) (cwV 1 hts gX6_part_X6_fail rfl rfl rfl (by decide +kernel) ⟨Nat.le_of_ble_eq_true rfl, Nat.le_of_ble_eq_true rfl⟩) (pv_ hK hPc hDc (va_recv hK hPc (ci := 6) (q0 := 0) rfl rfl)) rfl rfl hl.1 rfl (lv_room (Nat.le_of_ble_eq_true rfl)) dX6_part_32 ⟨Nat.zero_le _, Nat.zero_le _⟩) hS (fun q _ h => hFc q h) hFc (fun rf u t H1 locs ht hvm hwf hB hz1 hk1 hS => ?_)
      obtain ⟨hP1, hK1, hD1⟩ := hB
      rw [ht] at hP1
      obtain ⟨hP, hD⟩ := va_join (wr := [(za, .inl (cI, 2, .inl pa)), (zb, .inl (cI, 2050, .inl bg)), (zp, .inl (cI, 2, .inl pt))]) (w1 := [(ma, .inr (6, mo_ 2 zk zp za zb zx zy sn zf zt zw zm zh x0 y0 dx dy zz cu zo zu))]) hP hD [0] [1, 2, 3] rfl rfl (by decide) (by decide) hk1 hFc hP1 hD1
      clear hPc hDc hFc hP1 hD1 hK1 hk1 hz1 hvm ht
      generalize H1 = H at hP hS ⊢
      have hP : va_P g vwCl [(za, .inl (cI, 2, .inl pa)), (zb, .inl (cI, 2050, .inl bg)), (zp, .inl (cI, 2, .inl pt)), (ma, .inr (6, mo_ 2 zk zp za zb zx zy sn zf zt zw zm zh x0 y0 dx dy zz cu zo zu))] H := hP
      have hD : va_D A [(za, .inl (cI, 2, .inl pa)), (zb, .inl (cI, 2050, .inl bg)), (zp, .inl (cI, 2, .inl pt)), (ma, .inr (6, mo_ 2 zk zp za zb zx zy sn zf zt zw zm zh x0 y0 dx dy zz cu zo zu))] := hD
      have hP9 := hP.sub (ws' := [(ma, .inr (6, mo_ 2 zk zp za zb zx zy sn zf zt zw zm zh x0 y0 dx dy zz cu zo zu)), (za, .inl (cI, 2, .inl pa)), (zb, .inl (cI, 2050, .inl bg)), (zp, .inl (cI, 2, .inl pt))]) [3, 0, 1, 2] rfl
      have hD9 := hD.sub (ws' := [(ma, .inr (6, mo_ 2 zk zp za zb zx zy sn zf zt zw zm zh x0 y0 dx dy zz cu zo zu)), (za, .inl (cI, 2, .inl pa)), (zb, .inl (cI, 2050, .inl bg)), (zp, .inl (cI, 2, .inl pt))]) [3, 0, 1, 2] (by decide) rfl
      exact W.iret (v := rf) hx hb hr (fun t ht hW => ⟨⟨rf, (2, pa, bg), rfl, ⟨fun h => absurd h n1, fun s7 h2 e2 => by have e3 := sh_u hsh h2 e2; subst e3; exact ⟨fun _ => ⟨rfl, rfl, rfl⟩, fun h => absurd n2 h⟩⟩, by rw [ht]; exact hP9, va_K.moved hW.alike hK, hD9⟩, hS.F ht⟩) hS.2.2 dX6_part_35
  · refine lv_aload_n hx hb dX6_part_12 rfl (lv_at hl 0 rfl) ?_
    refine lv_iconst (v := 1) hx hb dX6_part_13 (by decide) ?_
    have hPc := hP.sub (ws' := [(ma, .inr (6, mo_ 0 zk zp za zb zx zy sn zf zt zw zm zh x0 y0 dx dy zz cu zo zu))]) [0] rfl
    have hDc := hD.sub (ws' := [(ma, .inr (6, mo_ 0 zk zp za zb zx zy sn zf zt zw zm zh x0 y0 dx dy zz cu zo zu))]) [0] (by decide) rfl
    have hFc := va_free (wc := [(ma, .inr (6, mo_ 0 zk zp za zb zx zy sn zf zt zw zm zh x0 y0 dx dy zz cu zo zu))]) hD hS hA [0] rfl
    refine va_calli (va_runV (As := [.int 1]) (rest := []) ⟨hx, hb, hml, hown, hts⟩ (kX6_fail l g cI cJ cZ H.size ma 0 sn x0 y0 dx dy cu zk zp za zb zx zy zf zt zw zm zh zz zo zu 1) (cwV 1 hts gX6_part_X6_fail rfl rfl rfl (by decide +kernel) ⟨Nat.le_of_ble_eq_true rfl, Nat.le_of_ble_eq_true rfl⟩) (pv_ hK hPc hDc (va_recv hK hPc (ci := 6) (q0 := 0) rfl rfl)) rfl rfl hl.1 rfl (lv_room (Nat.le_of_ble_eq_true rfl)) dX6_part_14 ⟨Nat.zero_le _, Nat.zero_le _⟩) hS (fun q _ h => hFc q h) hFc (fun rf u t H1 locs ht hvm hwf hB hz1 hk1 hS => ?_)
    obtain ⟨hP1, hK1, hD1⟩ := hB
    rw [ht] at hP1
    obtain ⟨hP, hD⟩ := va_join (wr := [(za, .inl (cI, 2, .inl pa)), (zb, .inl (cI, 2050, .inl bg)), (zp, .inl (cI, 2, .inl pt))]) (w1 := [(ma, .inr (6, mo_ 1 zk zp za zb zx zy sn zf zt zw zm zh x0 y0 dx dy zz cu zo zu))]) hP hD [0] [1, 2, 3] rfl rfl (by decide) (by decide) hk1 hFc hP1 hD1
    clear hPc hDc hFc hP1 hD1 hK1 hk1 hz1 hvm ht
    generalize H1 = H at hP hS ⊢
    have hP : va_P g vwCl [(za, .inl (cI, 2, .inl pa)), (zb, .inl (cI, 2050, .inl bg)), (zp, .inl (cI, 2, .inl pt)), (ma, .inr (6, mo_ 1 zk zp za zb zx zy sn zf zt zw zm zh x0 y0 dx dy zz cu zo zu))] H := hP
    have hD : va_D A [(za, .inl (cI, 2, .inl pa)), (zb, .inl (cI, 2050, .inl bg)), (zp, .inl (cI, 2, .inl pt)), (ma, .inr (6, mo_ 1 zk zp za zb zx zy sn zf zt zw zm zh x0 y0 dx dy zz cu zo zu))] := hD
    have hP9 := hP.sub (ws' := [(ma, .inr (6, mo_ 1 zk zp za zb zx zy sn zf zt zw zm zh x0 y0 dx dy zz cu zo zu)), (za, .inl (cI, 2, .inl pa)), (zb, .inl (cI, 2050, .inl bg)), (zp, .inl (cI, 2, .inl pt))]) [3, 0, 1, 2] rfl
    have hD9 := hD.sub (ws' := [(ma, .inr (6, mo_ 1 zk zp za zb zx zy sn zf zt zw zm zh x0 y0 dx dy zz cu zo zu)), (za, .inl (cI, 2, .inl pa)), (zb, .inl (cI, 2050, .inl bg)), (zp, .inl (cI, 2, .inl pt))]) [3, 0, 1, 2] (by decide) rfl
    exact W.iret (v := rf) hx hb hr (fun t ht hW => ⟨⟨rf, (1, pa, bg), rfl, ⟨fun _ => ⟨rfl, rfl, rfl⟩, fun s7 h2 e2 => absurd (hw1.symm.trans c1) (by rw [e2]; exact wi_s h2)⟩, by rw [ht]; exact hP9, va_K.moved hW.alike hK, hD9⟩, hS.F ht⟩) hS.2.2 dX6_part_17
end
