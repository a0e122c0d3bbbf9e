section
theorem ikX6_mark_X6 : ∀ w ∈ wsX60, w ∈ wsX6_mark := by decide +kernel
set_option maxHeartbeats 1000000 in
set_option maxRecDepth 100000 in
theorem kX6_mark (l : Launch) (g : va_G) (cI cJ cZ : ClassId) (sz : Nat) (ma : Nat) (th : Int32) (sn : Int32) (x0 : Int64) (y0 : Int64) (dx : Int64) (dy : Int64) (cu : Int32) (zk : Nat) (zp : Nat) (za : Nat) (zb : Nat) (zx : Nat) (zy : Nat) (zf : Nat) (zt : Nat) (zw : Nat) (zm : Nat) (zh : Nat) (zz : Nat) (zo : Nat) (zu : Nat) (mx : Nat → Int32) (o1 : Int32) (o2 : Int32) (d : Int32) (t1 : t3_ o1) (t2 : t3_ o2) : Met l yX6_mark wsX6_mark ({ frames := 0, cells := 0, slots := 0, locals := 0 }) (pc_ g cI cJ cZ [.ref ma, .int o1, .int o2, .int d] [(ma, .inr (6, mo_ th zk zp za zb zx zy sn zf zt zw zm zh x0 y0 dx dy zz cu zo zu)), (zm, .inl (cI, 9, .inl mx))] sz) (va_Qv (fun (mx2 : (Nat → Int32)) => mx2 = rai_ mx o1 o2 d) (fun (mx2 : (Nat → Int32)) t => wd_ g cI cJ cZ (va_A [(ma, .inr (6, mo_ th zk zp za zb zx zy sn zf zt zw zm zh x0 y0 dx dy zz cu zo zu)), (zm, .inl (cI, 9, .inl mx))] sz) [(ma, .inr (6, mo_ th zk zp za zb zx zy sn zf zt zw zm zh x0 y0 dx dy zz cu zo zu)), (zm, .inl (cI, 9, .inl mx2))] t) (va_A [(ma, .inr (6, mo_ th zk zp za zb zx zy sn zf zt zw zm zh x0 y0 dx dy zz cu zo zu)), (zm, .inl (cI, 9, .inl mx))] sz)) (0) (0) (va_A [(ma, .inr (6, mo_ th zk zp za zb zx zy sn zf zt zw zm zh x0 y0 dx dy zz cu zo zu)), (zm, .inl (cI, 9, .inl mx))] sz) := by
  refine Met.ofW (cc := cX6_mark) (maxL := 5) (ret := none) (by decide) rfl ?_
  intro p e s m args below meth c s₁ B hml hv
  obtain ⟨rfl, hsz, hP, hK, hD0⟩ := hv
  have hx := B.exec
  have hb := B.bytes
  have hr := B.returns
  have hts := atoms_spec (ws := wsX6_mark) B.pre
  have hown : s.vm.findClass RX6 = some m.cls := findClass_of_methodNamed B.named
  have hlocks := B.notSynchronized
  subst hsz
  have hD := hD0.self (sz := s.heap.size)
  generalize hAe : va_A [(ma, .inr (6, mo_ th zk zp za zb zx zy sn zf zt zw zm zh x0 y0 dx dy zz cu zo zu)), (zm, .inl (cI, 9, .inl mx))] s.heap.size = A at hD ⊢
  have hA : ∀ q : Nat, s.heap.size ≤ q → A q := fun q h => by rw [← hAe]; exact Or.inr h
  have hS : va_S A s.heap s.heap [] := va_S.rf
  have hP : va_P g vwCl [(ma, .inr (6, mo_ th zk zp za zb zx zy sn zf zt zw zm zh x0 y0 dx dy zz cu zo zu)), (zm, .inl (cI, 9, .inl mx))] s.heap := hP
  have hl := lv_entry ([.ref ma, .int o1, .int o2, .int d]) (n := 5) (Nat.le_of_ble_eq_true rfl)
  rw [lg_entry_eq]
  generalize (lg_sl ([.ref ma, .int o1, .int o2, .int d]) ++ List.replicate (5 - (lg_sl ([.ref ma, .int o1, .int o2, .int d])).length) Slot.unset).toArray = ls at hl ⊢
  have hl : lv_has ls 5 [(0, .ref ma), (1, .int o1), (2, .int o2), (3, .int d)] := hl
  have hH0 : s.heap = s.heap := rfl
  have hiX6 := ikX6_mark_X6
  refine lv_iconst (v := 3) hx hb dX6_mark_0 (by decide) ?_
  refine lv_iload_n hx hb dX6_mark_1 rfl (lv_at hl 1 rfl) ?_
  refine lv_imul hx hb dX6_mark_2 ?_
  refine lv_iload_n hx hb dX6_mark_3 rfl (lv_at hl 2 rfl) ?_
  refine lv_iadd hx hb dX6_mark_4 ?_
  refine lv_istore (lv' := [(4, .int ((3 * o1) + o2)), (0, .ref ma), (1, .int o1), (2, .int o2), (3, .int d)]) hx hb dX6_mark_5 hl (by decide) rfl (fun ls hl => ?_)
  refine lv_aload_n hx hb dX6_mark_7 rfl (lv_at hl 1 rfl) ?_
  refine va_get (D := g) (ci := 6) (v := .ref zm) (C := RX6) (T := TX6) (N := 21) hx hb hts hiX6 hown hK hP 0 rfl rfl 11 (by decide) (hts (.fieldLink RX6 37 "ShapeRelatorModel" "matrix" "[I") (List.mem_of_getElem? (i := 1) rfl)) (fun _ h9 => h9) rfl dX6_mark_8 ?_
  refine lv_iload hx hb dX6_mark_11 (lv_at hl 0 rfl) ?_
  refine lv_aload_n hx hb dX6_mark_13 rfl (lv_at hl 1 rfl) ?_
  refine va_get (D := g) (ci := 6) (v := .ref zm) (C := RX6) (T := TX6) (N := 21) hx hb hts hiX6 hown hK hP 0 rfl rfl 11 (by decide) (hts (.fieldLink RX6 37 "ShapeRelatorModel" "matrix" "[I") (List.mem_of_getElem? (i := 1) rfl)) (fun _ h9 => h9) rfl dX6_mark_14 ?_
  refine lv_iload hx hb dX6_mark_17 (lv_at hl 0 rfl) ?_
  refine va_iald (D := g) hx hb hK hP 1 0 rfl rfl (t3_i t1 t2) dX6_mark_19 ?_
  refine tpi_ (y := (mat_ mx o1 o2)) rfl ?_
  refine lv_iload_n hx hb dX6_mark_20 rfl (lv_at hl 4 rfl) ?_
  refine lv_icmp_le (tgt := 34) hx hb dX6_mark_21 (by decide) (fun c1 => ?_) (fun c1 => ?_)
  · refine lv_iload_n hx hb dX6_mark_34 rfl (lv_at hl 4 rfl) ?_
    refine va_iast (D := g) hx hb hK hP hD hS 1 0 rfl rfl (t3_i t1 t2) dX6_mark_35 (fun H locs hP hD hS => ?_)
    have hP : va_P g vwCl [(ma, .inr (6, mo_ th zk zp za zb zx zy sn zf zt zw zm zh x0 y0 dx dy zz cu zo zu)), (zm, .inl (cI, 9, .inl (upd mx ((3 * o1) + o2).toNatClampNeg d)))] H := hP
    have hD : va_D A [(ma, .inr (6, mo_ th zk zp za zb zx zy sn zf zt zw zm zh x0 y0 dx dy zz cu zo zu)), (zm, .inl (cI, 9, .inl (upd mx ((3 * o1) + o2).toNatClampNeg d)))] := hD
    have hP9 := hP.sub (ws' := [(ma, .inr (6, mo_ th zk zp za zb zx zy sn zf zt zw zm zh x0 y0 dx dy zz cu zo zu)), (zm, .inl (cI, 9, .inl (upd mx (3 * o1 + o2).toNatClampNeg d)))]) [0, 1] rfl
    have hD9 := hD.sub (ws' := [(ma, .inr (6, mo_ th zk zp za zb zx zy sn zf zt zw zm zh x0 y0 dx dy zz cu zo zu)), (zm, .inl (cI, 9, .inl (upd mx (3 * o1 + o2).toNatClampNeg d)))]) [0, 1] (by decide) rfl
    exact W.vret hx hb hr (fun t ht hW => ⟨⟨upd mx (3 * o1 + o2).toNatClampNeg d, rfl, mk_a t1 t2 c1, by rw [ht]; exact hP9, va_K.moved hW.alike hK, hD9⟩, hS.F ht⟩) hS.2.2 dX6_mark_36
  · refine lv_aload_n hx hb dX6_mark_24 rfl (lv_at hl 1 rfl) ?_
    refine va_get (D := g) (ci := 6) (v := .ref zm) (C := RX6) (T := TX6) (N := 21) hx hb hts hiX6 hown hK hP 0 rfl rfl 11 (by decide) (hts (.fieldLink RX6 37 "ShapeRelatorModel" "matrix" "[I") (List.mem_of_getElem? (i := 1) rfl)) (fun _ h9 => h9) rfl dX6_mark_25 ?_
    refine lv_iload hx hb dX6_mark_28 (lv_at hl 0 rfl) ?_
    refine va_iald (D := g) hx hb hK hP 1 0 rfl rfl (t3_i t1 t2) dX6_mark_30 ?_
    refine tpi_ (y := (mat_ mx o1 o2)) rfl ?_
    refine lv_goto (tgt := 35) hx hb dX6_mark_31 (by decide) ?_
    refine va_iast (D := g) hx hb hK hP hD hS 1 0 rfl rfl (t3_i t1 t2) dX6_mark_35 (fun H locs hP hD hS => ?_)
    have hP : va_P g vwCl [(ma, .inr (6, mo_ th zk zp za zb zx zy sn zf zt zw zm zh x0 y0 dx dy zz cu zo zu)), (zm, .inl (cI, 9, .inl (upd mx ((3 * o1) + o2).toNatClampNeg (mat_ mx o1 o2))))] H := hP
    have hD : va_D A [(ma, .inr (6, mo_ th zk zp za zb zx zy sn zf zt zw zm zh x0 y0 dx dy zz cu zo zu)), (zm, .inl (cI, 9, .inl (upd mx ((3 * o1) + o2).toNatClampNeg (mat_ mx o1 o2))))] := hD
    have hP9 := hP.sub (ws' := [(ma, .inr (6, mo_ th zk zp za zb zx zy sn zf zt zw zm zh x0 y0 dx dy zz cu zo zu)), (zm, .inl (cI, 9, .inl (upd mx (3 * o1 + o2).toNatClampNeg (mat_ mx o1 o2))))]) [0, 1] rfl
    have hD9 := hD.sub (ws' := [(ma, .inr (6, mo_ th zk zp za zb zx zy sn zf zt zw zm zh x0 y0 dx dy zz cu zo zu)), (zm, .inl (cI, 9, .inl (upd mx (3 * o1 + o2).toNatClampNeg (mat_ mx o1 o2))))]) [0, 1] (by decide) rfl
    exact W.vret hx hb hr (fun t ht hW => ⟨⟨upd mx (3 * o1 + o2).toNatClampNeg (mat_ mx o1 o2), rfl, mk_b c1, by rw [ht]; exact hP9, va_K.moved hW.alike hK, hD9⟩, hS.F ht⟩) hS.2.2 dX6_mark_36

set_option maxHeartbeats 1000000 in
set_option maxRecDepth 100000 in
theorem kX6_compare (l : Launch) (g : va_G) (cI cJ cZ : ClassId) (sz : Nat) (n1 : Nat) (n2 : Nat) (n3 : Nat) (n4 : Nat) (b1 : n1 < 2 ^ 63) (b2 : 0 < n2 ∧ n2 < 2 ^ 63) (b3 : n3 < 2 ^ 63) (b4 : 0 < n4 ∧ n4 < 2 ^ 63) : Met l yX6_compare wsX6_compare ({ frames := 0, cells := 0, slots := 0, locals := 0 }) (pc_ g cI cJ cZ [.long (lN n1), .long (lN n2), .long (lN n3), .long (lN n4)] [] sz) (va_Qi (fun (r : Int32) (_ : Unit) => r = cq_ (n1 * n4) (n3 * n2)) (fun (_ : Unit) t => wd_ g cI cJ cZ (va_A [] sz) [] t) (va_A [] sz)) (0) (0) (va_A [] sz) := by
  refine Met.ofW (cc := cX6_compare) (maxL := 25) (ret := (some .int)) (by decide) rfl ?_
  intro p e s m args below meth c s₁ B hml hv
  obtain ⟨rfl, hsz, hP, hK, hD0⟩ := hv
  have hx := B.exec
  have hb := B.bytes
  have hr := B.returns
  have hts := atoms_spec (ws := wsX6_compare) B.pre
  have hown : s.vm.findClass RX6 = some m.cls := findClass_of_methodNamed B.named
  have hlocks := B.notSynchronized
  subst hsz
  have hD := hD0.self (sz := s.heap.size)
  generalize hAe : va_A [] s.heap.size = A at hD ⊢
  have hA : ∀ q : Nat, s.heap.size ≤ q → A q := fun q h => by rw [← hAe]; exact Or.inr h
  have hS : va_S A s.heap s.heap [] := va_S.rf
  have hP : va_P g vwCl [] s.heap := hP
  have hl := lv_entry ([.long (lN n1), .long (lN n2), .long (lN n3), .long (lN n4)]) (n := 25) (Nat.le_of_ble_eq_true rfl)
  rw [lg_entry_eq]
  generalize (lg_sl ([.long (lN n1), .long (lN n2), .long (lN n3), .long (lN n4)]) ++ List.replicate (25 - (lg_sl ([.long (lN n1), .long (lN n2), .long (lN n3), .long (lN n4)])).length) Slot.unset).toArray = ls at hl ⊢
  have hl : lv_has ls 25 [(0, .long (lN n1)), (2, .long (lN n2)), (4, .long (lN n3)), (6, .long (lN n4))] := hl
  have hH0 : s.heap = s.heap := rfl
  obtain ⟨tg, etg⟩ : ∃ q, q = cq_ (n1 * n4) (n3 * n2) := ⟨_, rfl⟩
  rw [← etg]
  refine lv_lload_n hx hb dX6_compare_0 rfl (lv_at hl 0 rfl) ?_
  refine lv_lstore (lv' := [(8, .long (lN n1)), (0, .long (lN n1)), (2, .long (lN n2)), (4, .long (lN n3)), (6, .long (lN n4))]) hx hb dX6_compare_1 hl (by decide) rfl (fun ls hl => ?_)
  refine lv_lload_n hx hb dX6_compare_3 rfl (lv_at hl 2 rfl) ?_
  refine lv_lstore (lv' := [(10, .long (lN n2)), (8, .long (lN n1)), (0, .long (lN n1)), (2, .long (lN n2)), (4, .long (lN n3)), (6, .long (lN n4))]) hx hb dX6_compare_4 hl (by decide) rfl (fun ls hl => ?_)
  refine lv_lload hx hb dX6_compare_6 (lv_at hl 4 rfl) ?_
  refine lv_lstore (lv' := [(12, .long (lN n3)), (10, .long (lN n2)), (8, .long (lN n1)), (0, .long (lN n1)), (2, .long (lN n2)), (4, .long (lN n3)), (6, .long (lN n4))]) hx hb dX6_compare_8 hl (by decide) rfl (fun ls hl => ?_)
  refine lv_lload hx hb dX6_compare_10 (lv_at hl 6 rfl) ?_
  refine lv_lstore (lv' := [(14, .long (lN n4)), (12, .long (lN n3)), (10, .long (lN n2)), (8, .long (lN n1)), (0, .long (lN n1)), (2, .long (lN n2)), (4, .long (lN n3)), (6, .long (lN n4))]) hx hb dX6_compare_12 hl (by decide) rfl (fun ls hl => ?_)
  refine lv_iconst (v := 1) hx hb dX6_compare_14 (by decide) ?_
  refine lv_istore (lv' := [(16, .int 1), (14, .long (lN n4)), (12, .long (lN n3)), (10, .long (lN n2)), (8, .long (lN n1)), (0, .long (lN n1)), (2, .long (lN n2)), (4, .long (lN n3)), (6, .long (lN n4))]) hx hb dX6_compare_15 hl (by decide) rfl (fun ls hl => ?_)
  refine lv_iconst (v := 1) hx hb dX6_compare_17 (by decide) ?_
  refine lv_istore (lv' := [(17, .int 1), (16, .int 1), (14, .long (lN n4)), (12, .long (lN n3)), (10, .long (lN n2)), (8, .long (lN n1)), (0, .long (lN n1)), (2, .long (lN n2)), (4, .long (lN n3)), (6, .long (lN n4))]) hx hb dX6_compare_18 hl (by decide) rfl (fun ls hl => ?_)
  refine lv_iconst (v := 0) hx hb dX6_compare_20 (by decide) ?_
  refine lv_istore (lv' := [(18, .int 0), (17, .int 1), (16, .int 1), (14, .long (lN n4)), (12, .long (lN n3)), (10, .long (lN n2)), (8, .long (lN n1)), (0, .long (lN n1)), (2, .long (lN n2)), (4, .long (lN n3)), (6, .long (lN n4))]) hx hb dX6_compare_21 hl (by decide) rfl (fun ls hl => ?_)
  refine lpW (σ := Nat × Nat × Nat × Nat × Int32 × Int32 × Int32 × Nat) (fun (a1, a2, a3, a4, sg, mo, fd, tt) => tt) (fun (a1, a2, a3, a4, sg, mo, fd, tt) => 0) (fun (a1, a2, a3, a4, sg, mo, fd, tt) => 0) (fun (a1, a2, a3, a4, sg, mo, fd, tt) H locs ls => ((mo = 1 ∧ tt = a2 + 1 ∧ a1 < 2 ^ 63 ∧ (0 < a2 ∧ a2 < 2 ^ 63) ∧ a3 < 2 ^ 63 ∧ (0 < a4 ∧ a4 < 2 ^ 63) ∧ tg = sg * cq_ (a1 * a4) (a3 * a2)) ∨ (mo = 0 ∧ tt = 0 ∧ fd = tg)) ∧ va_P g vwCl [] H ∧ va_D A [] ∧ va_S A s.heap H locs ∧ lv_has ls 25 [(18, .int fd), (17, .int mo), (16, .int sg), (14, .long (lN a4)), (12, .long (lN a3)), (10, .long (lN a2)), (8, .long (lN a1))]) (fun x ih H locs ls hI => ?_) (n1, n2, n3, n4, 1, 1, 0, n2 + 1) rfl rfl ⟨Or.inl ⟨rfl, rfl, b1, b2, b3, b4, by rw [etg, Int32.one_mul]⟩, hP, hD, hS, (lv_sub hl [0, 1, 2, 3, 4, 5, 6] rfl)⟩
  obtain ⟨a1, a2, a3, a4, sg, mo, fd, tt⟩ := x
  obtain ⟨hi, hP, hD, hS, hl⟩ := hI
  have hP : va_P g vwCl [] H := hP
  have hD : va_D A [] := hD
  have hl : lv_has ls 25 [(18, .int fd), (17, .int mo), (16, .int sg), (14, .long (lN a4)), (12, .long (lN a3)), (10, .long (lN a2)), (8, .long (lN a1))] := hl
  show W p l e _ s m _ below meth c H locs (0) (0) _ (F0 m 23 ls [])
  refine lv_iload hx hb dX6_compare_23 (lv_at hl 1 rfl) ?_
  refine lv_if_eq (tgt := 168) hx hb dX6_compare_25 (by decide) (fun c0 => ?_) (fun c0 => ?_)
  · rcases hi with hi | hi
    · exact absurd (hi.1.symm.trans c0) (by decide)
    refine lv_iload hx hb dX6_compare_168 (lv_at hl 0 rfl) ?_
    have hP9 := hP.sub (ws' := []) [] rfl
    have hD9 := hD.sub (ws' := []) [] (by decide) rfl
    exact W.iret (v := fd) hx hb hr (fun t ht hW => ⟨⟨fd, (), rfl, hi.2.2, by rw [ht]; exact hP9, va_K.moved hW.alike hK, hD9⟩, hS.F ht⟩) hS.2.2 dX6_compare_170
  · rcases hi with hi | hi
    case inr => exact absurd hi.1 c0
    obtain ⟨-, i0, i1, i2, i3, i4, i5⟩ := hi
    refine lv_lload hx hb dX6_compare_28 (lv_at hl 6 rfl) ?_
    refine lv_lload hx hb dX6_compare_30 (lv_at hl 5 rfl) ?_
    refine lv_ldiv hx hb dX6_compare_32 (fun h => absurd ((pk_lEQ (b := 0) (by omega) (by decide)).mp h) (by omega)) ?_
    refine tpl_ (y := (lN (a1 / a2))) ((pk_lDiv i1 i2.1 i2.2).symm) ?_
    refine lv_lstore (lv' := [(19, .long (lN (a1 / a2))), (18, .int fd), (17, .int mo), (16, .int sg), (14, .long (lN a4)), (12, .long (lN a3)), (10, .long (lN a2)), (8, .long (lN a1))]) hx hb dX6_compare_33 hl (by decide) rfl (fun ls hl => ?_)
    refine lv_lload hx hb dX6_compare_35 (lv_at hl 5 rfl) ?_
    refine lv_lload hx hb dX6_compare_37 (lv_at hl 4 rfl) ?_
    refine lv_ldiv hx hb dX6_compare_39 (fun h => absurd ((pk_lEQ (b := 0) (by omega) (by decide)).mp h) (by omega)) ?_
    refine tpl_ (y := (lN (a3 / a4))) ((pk_lDiv i3 i4.1 i4.2).symm) ?_
    refine lv_lstore (lv' := [(21, .long (lN (a3 / a4))), (19, .long (lN (a1 / a2))), (18, .int fd), (17, .int mo), (16, .int sg), (14, .long (lN a4)), (12, .long (lN a3)), (10, .long (lN a2)), (8, .long (lN a1))]) hx hb dX6_compare_40 hl (by decide) rfl (fun ls hl => ?_)
    refine lv_lload hx hb dX6_compare_42 (lv_at hl 1 rfl) ?_
    refine lv_lload hx hb dX6_compare_44 (lv_at hl 0 rfl) ?_
    refine W.lcmp hx hb dX6_compare_46 ?_
    have d1 : a1 / a2 < 2 ^ 63 := Nat.lt_of_le_of_lt (Nat.div_le_self _ _) i1
    have d3 : a3 / a4 < 2 ^ 63 := Nat.lt_of_le_of_lt (Nat.div_le_self _ _) i3
    refine lv_if_eq (tgt := 67) hx hb dX6_compare_47 (by decide) (fun c1 => ?_) (fun c1 => ?_)
    · have k1 : a1 / a2 = a3 / a4 := (lc_e d1 d3).mp c1
      have m1 : a1 % a2 < a2 := Nat.mod_lt _ i2.1
      have m3 : a3 % a4 < a4 := Nat.mod_lt _ i4.1
      refine lv_lload hx hb dX6_compare_67 (lv_at hl 8 rfl) ?_
      refine lv_lload hx hb dX6_compare_69 (lv_at hl 7 rfl) ?_
      refine lv_lrem hx hb dX6_compare_71 (fun h => absurd ((pk_lEQ (b := 0) (by omega) (by decide)).mp h) (by omega)) ?_
      refine tpl_ (y := (lN (a1 % a2))) ((pk_lRem i1 i2.1 i2.2).symm) ?_
      refine lv_lstore (lv' := [(8, .long (lN (a1 % a2))), (21, .long (lN (a3 / a4))), (19, .long (lN (a1 / a2))), (18, .int fd), (17, .int mo), (16, .int sg), (14, .long (lN a4)), (12, .long (lN a3)), (10, .long (lN a2))]) hx hb dX6_compare_72 hl (by decide) rfl (fun ls hl => ?_)
      refine lv_lload hx hb dX6_compare_74 (lv_at hl 7 rfl) ?_
      refine lv_lload hx hb dX6_compare_76 (lv_at hl 6 rfl) ?_
      refine lv_lrem hx hb dX6_compare_78 (fun h => absurd ((pk_lEQ (b := 0) (by omega) (by decide)).mp h) (by omega)) ?_
      refine tpl_ (y := (lN (a3 % a4))) ((pk_lRem i3 i4.1 i4.2).symm) ?_
      refine lv_lstore (lv' := [(12, .long (lN (a3 % a4))), (8, .long (lN (a1 % a2))), (21, .long (lN (a3 / a4))), (19, .long (lN (a1 / a2))), (18, .int fd), (17, .int mo), (16, .int sg), (14, .long (lN a4)), (10, .long (lN a2))]) hx hb dX6_compare_79 hl (by decide) rfl (fun ls hl => ?_)
      refine lv_lload hx hb dX6_compare_81 (lv_at hl 1 rfl) ?_
      refine lv_lconst (v := 0) hx hb dX6_compare_83 (by decide) ?_
      refine W.lcmp hx hb dX6_compare_84 ?_
      refine lv_if_eq (tgt := 99) hx hb dX6_compare_85 (by decide) (fun c2 => ?_) (fun c2 => ?_)
      · have k2 : a1 % a2 = 0 := (lc_e (y := 0) (by omega) (by decide)).mp c2
        refine lv_iconst (v := 0) hx hb dX6_compare_99 (by decide) ?_
        refine lv_istore (lv' := [(17, .int 0), (12, .long (lN (a3 % a4))), (8, .long (lN (a1 % a2))), (21, .long (lN (a3 / a4))), (19, .long (lN (a1 / a2))), (18, .int fd), (16, .int sg), (14, .long (lN a4)), (10, .long (lN a2))]) hx hb dX6_compare_100 hl (by decide) rfl (fun ls hl => ?_)
        refine lv_iload hx hb dX6_compare_102 (lv_at hl 0 rfl) ?_
        refine lv_if_ne (tgt := 136) hx hb dX6_compare_104 (by decide) (fun c4 => ?_) (fun c4 => ?_)
        · exact absurd rfl c4
        · refine lv_lload hx hb dX6_compare_107 (lv_at hl 2 rfl) ?_
          refine lv_lload hx hb dX6_compare_109 (lv_at hl 1 rfl) ?_
          refine W.lcmp hx hb dX6_compare_111 ?_
          refine lv_if_ne (tgt := 119) hx hb dX6_compare_112 (by decide) (fun c5 => ?_) (fun c5 => ?_)
          · have k5 : ¬ a1 % a2 = a3 % a4 := fun h => c5 ((lc_e (by omega) (by omega)).mpr h)
            refine lv_lload hx hb dX6_compare_119 (lv_at hl 2 rfl) ?_
            refine lv_lconst (v := 0) hx hb dX6_compare_121 (by decide) ?_
            refine W.lcmp hx hb dX6_compare_122 ?_
            refine lv_if_ne (tgt := 132) hx hb dX6_compare_123 (by decide) (fun c6 => ?_) (fun c6 => ?_)
            · have k6 : ¬ a1 % a2 = 0 := fun h => c6 ((lc_e (y := 0) (by omega) (by decide)).mpr h)
              refine lv_iload hx hb dX6_compare_132 (lv_at hl 6 rfl) ?_
              refine lv_istore (lv' := [(18, .int sg), (17, .int 0), (12, .long (lN (a3 % a4))), (8, .long (lN (a1 % a2))), (21, .long (lN (a3 / a4))), (19, .long (lN (a1 / a2))), (16, .int sg), (14, .long (lN a4)), (10, .long (lN a2))]) hx hb dX6_compare_134 hl (by decide) rfl (fun ls hl => ?_)
              refine lv_lload hx hb dX6_compare_136 (lv_at hl 3 rfl) ?_
              refine lv_lstore (lv' := [(23, .long (lN (a1 % a2))), (18, .int sg), (17, .int 0), (12, .long (lN (a3 % a4))), (8, .long (lN (a1 % a2))), (21, .long (lN (a3 / a4))), (19, .long (lN (a1 / a2))), (16, .int sg), (14, .long (lN a4)), (10, .long (lN a2))]) hx hb dX6_compare_138 hl (by decide) rfl (fun ls hl => ?_)
              refine lv_lload hx hb dX6_compare_140 (lv_at hl 9 rfl) ?_
              refine lv_lstore (lv' := [(8, .long (lN a2)), (23, .long (lN (a1 % a2))), (18, .int sg), (17, .int 0), (12, .long (lN (a3 % a4))), (21, .long (lN (a3 / a4))), (19, .long (lN (a1 / a2))), (16, .int sg), (14, .long (lN a4)), (10, .long (lN a2))]) hx hb dX6_compare_142 hl (by decide) rfl (fun ls hl => ?_)
              refine lv_lload hx hb dX6_compare_144 (lv_at hl 1 rfl) ?_
              refine lv_lstore (lv' := [(10, .long (lN (a1 % a2))), (8, .long (lN a2)), (23, .long (lN (a1 % a2))), (18, .int sg), (17, .int 0), (12, .long (lN (a3 % a4))), (21, .long (lN (a3 / a4))), (19, .long (lN (a1 / a2))), (16, .int sg), (14, .long (lN a4))]) hx hb dX6_compare_146 hl (by decide) rfl (fun ls hl => ?_)
              refine lv_lload hx hb dX6_compare_148 (lv_at hl 5 rfl) ?_
              refine lv_lstore (lv' := [(23, .long (lN (a3 % a4))), (10, .long (lN (a1 % a2))), (8, .long (lN a2)), (18, .int sg), (17, .int 0), (12, .long (lN (a3 % a4))), (21, .long (lN (a3 / a4))), (19, .long (lN (a1 / a2))), (16, .int sg), (14, .long (lN a4))]) hx hb dX6_compare_150 hl (by decide) rfl (fun ls hl => ?_)
              refine lv_lload hx hb dX6_compare_152 (lv_at hl 9 rfl) ?_
              refine lv_lstore (lv' := [(12, .long (lN a4)), (23, .long (lN (a3 % a4))), (10, .long (lN (a1 % a2))), (8, .long (lN a2)), (18, .int sg), (17, .int 0), (21, .long (lN (a3 / a4))), (19, .long (lN (a1 / a2))), (16, .int sg), (14, .long (lN a4))]) hx hb dX6_compare_154 hl (by decide) rfl (fun ls hl => ?_)
              refine lv_lload hx hb dX6_compare_156 (lv_at hl 1 rfl) ?_
              refine lv_lstore (lv' := [(14, .long (lN (a3 % a4))), (12, .long (lN a4)), (23, .long (lN (a3 % a4))), (10, .long (lN (a1 % a2))), (8, .long (lN a2)), (18, .int sg), (17, .int 0), (21, .long (lN (a3 / a4))), (19, .long (lN (a1 / a2))), (16, .int sg)]) hx hb dX6_compare_158 hl (by decide) rfl (fun ls hl => ?_)
              refine lv_iload hx hb dX6_compare_160 (lv_at hl 9 rfl) ?_
              refine lv_ineg hx hb dX6_compare_162 ?_
              refine lv_istore (lv' := [(16, .int (-sg)), (14, .long (lN (a3 % a4))), (12, .long (lN a4)), (23, .long (lN (a3 % a4))), (10, .long (lN (a1 % a2))), (8, .long (lN a2)), (18, .int sg), (17, .int 0), (21, .long (lN (a3 / a4))), (19, .long (lN (a1 / a2)))]) hx hb dX6_compare_163 hl (by decide) rfl (fun ls hl => ?_)
              refine lv_goto (tgt := 23) hx hb dX6_compare_165 (by decide) ?_
              have hl : lv_has ls 25 [(16, .int (-sg)), (14, .long (lN (a3 % a4))), (12, .long (lN a4)), (23, .long (lN (a3 % a4))), (10, .long (lN (a1 % a2))), (8, .long (lN a2)), (18, .int sg), (17, .int 0), (21, .long (lN (a3 / a4))), (19, .long (lN (a1 / a2)))] := hl
              exact ih (a2, a1 % a2, a4, a3 % a4, -sg, 0, sg, 0) (by show 0 < tt; omega) H locs ls ⟨Or.inr ⟨rfl, rfl, er_2 i4.1 i5 k1 k6 (by omega)⟩, hP, hD, hS, (lv_sub hl [6, 7, 0, 1, 2, 4, 5] rfl)⟩
            · have k6 : a1 % a2 = 0 := (lc_e (y := 0) (by omega) (by decide)).mp c6
              refine lv_iload hx hb dX6_compare_126 (lv_at hl 6 rfl) ?_
              refine lv_ineg hx hb dX6_compare_128 ?_
              refine lv_goto (tgt := 134) hx hb dX6_compare_129 (by decide) ?_
              refine lv_istore (lv' := [(18, .int (-sg)), (17, .int 0), (12, .long (lN (a3 % a4))), (8, .long (lN (a1 % a2))), (21, .long (lN (a3 / a4))), (19, .long (lN (a1 / a2))), (16, .int sg), (14, .long (lN a4)), (10, .long (lN a2))]) hx hb dX6_compare_134 hl (by decide) rfl (fun ls hl => ?_)
              refine lv_lload hx hb dX6_compare_136 (lv_at hl 3 rfl) ?_
              refine lv_lstore (lv' := [(23, .long (lN (a1 % a2))), (18, .int (-sg)), (17, .int 0), (12, .long (lN (a3 % a4))), (8, .long (lN (a1 % a2))), (21, .long (lN (a3 / a4))), (19, .long (lN (a1 / a2))), (16, .int sg), (14, .long (lN a4)), (10, .long (lN a2))]) hx hb dX6_compare_138 hl (by decide) rfl (fun ls hl => ?_)
              refine lv_lload hx hb dX6_compare_140 (lv_at hl 9 rfl) ?_
              refine lv_lstore (lv' := [(8, .long (lN a2)), (23, .long (lN (a1 % a2))), (18, .int (-sg)), (17, .int 0), (12, .long (lN (a3 % a4))), (21, .long (lN (a3 / a4))), (19, .long (lN (a1 / a2))), (16, .int sg), (14, .long (lN a4)), (10, .long (lN a2))]) hx hb dX6_compare_142 hl (by decide) rfl (fun ls hl => ?_)
              refine lv_lload hx hb dX6_compare_144 (lv_at hl 1 rfl) ?_
              refine lv_lstore (lv' := [(10, .long (lN (a1 % a2))), (8, .long (lN a2)), (23, .long (lN (a1 % a2))), (18, .int (-sg)), (17, .int 0), (12, .long (lN (a3 % a4))), (21, .long (lN (a3 / a4))), (19, .long (lN (a1 / a2))), (16, .int sg), (14, .long (lN a4))]) hx hb dX6_compare_146 hl (by decide) rfl (fun ls hl => ?_)
              refine lv_lload hx hb dX6_compare_148 (lv_at hl 5 rfl) ?_
              refine lv_lstore (lv' := [(23, .long (lN (a3 % a4))), (10, .long (lN (a1 % a2))), (8, .long (lN a2)), (18, .int (-sg)), (17, .int 0), (12, .long (lN (a3 % a4))), (21, .long (lN (a3 / a4))), (19, .long (lN (a1 / a2))), (16, .int sg), (14, .long (lN a4))]) hx hb dX6_compare_150 hl (by decide) rfl (fun ls hl => ?_)
              refine lv_lload hx hb dX6_compare_152 (lv_at hl 9 rfl) ?_
              refine lv_lstore (lv' := [(12, .long (lN a4)), (23, .long (lN (a3 % a4))), (10, .long (lN (a1 % a2))), (8, .long (lN a2)), (18, .int (-sg)), (17, .int 0), (21, .long (lN (a3 / a4))), (19, .long (lN (a1 / a2))), (16, .int sg), (14, .long (lN a4))]) hx hb dX6_compare_154 hl (by decide) rfl (fun ls hl => ?_)
              refine lv_lload hx hb dX6_compare_156 (lv_at hl 1 rfl) ?_
              refine lv_lstore (lv' := [(14, .long (lN (a3 % a4))), (12, .long (lN a4)), (23, .long (lN (a3 % a4))), (10, .long (lN (a1 % a2))), (8, .long (lN a2)), (18, .int (-sg)), (17, .int 0), (21, .long (lN (a3 / a4))), (19, .long (lN (a1 / a2))), (16, .int sg)]) hx hb dX6_compare_158 hl (by decide) rfl (fun ls hl => ?_)
              refine lv_iload hx hb dX6_compare_160 (lv_at hl 9 rfl) ?_
              refine lv_ineg hx hb dX6_compare_162 ?_
              refine lv_istore (lv' := [(16, .int (-sg)), (14, .long (lN (a3 % a4))), (12, .long (lN a4)), (23, .long (lN (a3 % a4))), (10, .long (lN (a1 % a2))), (8, .long (lN a2)), (18, .int (-sg)), (17, .int 0), (21, .long (lN (a3 / a4))), (19, .long (lN (a1 / a2)))]) hx hb dX6_compare_163 hl (by decide) rfl (fun ls hl => ?_)
              refine lv_goto (tgt := 23) hx hb dX6_compare_165 (by decide) ?_
              have hl : lv_has ls 25 [(16, .int (-sg)), (14, .long (lN (a3 % a4))), (12, .long (lN a4)), (23, .long (lN (a3 % a4))), (10, .long (lN (a1 % a2))), (8, .long (lN a2)), (18, .int (-sg)), (17, .int 0), (21, .long (lN (a3 / a4))), (19, .long (lN (a1 / a2)))] := hl
              exact ih (a2, a1 % a2, a4, a3 % a4, -sg, 0, -sg, 0) (by show 0 < tt; omega) H locs ls ⟨Or.inr ⟨rfl, rfl, er_1 i2.1 i5 k1 k6 (by omega)⟩, hP, hD, hS, (lv_sub hl [6, 7, 0, 1, 2, 4, 5] rfl)⟩
          · have k5 : a1 % a2 = a3 % a4 := (lc_e (by omega) (by omega)).mp c5
            refine lv_iconst (v := 0) hx hb dX6_compare_115 (by decide) ?_
            refine lv_goto (tgt := 134) hx hb dX6_compare_116 (by decide) ?_
            refine lv_istore (lv' := [(18, .int 0), (17, .int 0), (12, .long (lN (a3 % a4))), (8, .long (lN (a1 % a2))), (21, .long (lN (a3 / a4))), (19, .long (lN (a1 / a2))), (16, .int sg), (14, .long (lN a4)), (10, .long (lN a2))]) hx hb dX6_compare_134 hl (by decide) rfl (fun ls hl => ?_)
            refine lv_lload hx hb dX6_compare_136 (lv_at hl 3 rfl) ?_
            refine lv_lstore (lv' := [(23, .long (lN (a1 % a2))), (18, .int 0), (17, .int 0), (12, .long (lN (a3 % a4))), (8, .long (lN (a1 % a2))), (21, .long (lN (a3 / a4))), (19, .long (lN (a1 / a2))), (16, .int sg), (14, .long (lN a4)), (10, .long (lN a2))]) hx hb dX6_compare_138 hl (by decide) rfl (fun ls hl => ?_)
            refine lv_lload hx hb dX6_compare_140 (lv_at hl 9 rfl) ?_
            refine lv_lstore (lv' := [(8, .long (lN a2)), (23, .long (lN (a1 % a2))), (18, .int 0), (17, .int 0), (12, .long (lN (a3 % a4))), (21, .long (lN (a3 / a4))), (19, .long (lN (a1 / a2))), (16, .int sg), (14, .long (lN a4)), (10, .long (lN a2))]) hx hb dX6_compare_142 hl (by decide) rfl (fun ls hl => ?_)
            refine lv_lload hx hb dX6_compare_144 (lv_at hl 1 rfl) ?_
            refine lv_lstore (lv' := [(10, .long (lN (a1 % a2))), (8, .long (lN a2)), (23, .long (lN (a1 % a2))), (18, .int 0), (17, .int 0), (12, .long (lN (a3 % a4))), (21, .long (lN (a3 / a4))), (19, .long (lN (a1 / a2))), (16, .int sg), (14, .long (lN a4))]) hx hb dX6_compare_146 hl (by decide) rfl (fun ls hl => ?_)
            refine lv_lload hx hb dX6_compare_148 (lv_at hl 5 rfl) ?_
            refine lv_lstore (lv' := [(23, .long (lN (a3 % a4))), (10, .long (lN (a1 % a2))), (8, .long (lN a2)), (18, .int 0), (17, .int 0), (12, .long (lN (a3 % a4))), (21, .long (lN (a3 / a4))), (19, .long (lN (a1 / a2))), (16, .int sg), (14, .long (lN a4))]) hx hb dX6_compare_150 hl (by decide) rfl (fun ls hl => ?_)
            refine lv_lload hx hb dX6_compare_152 (lv_at hl 9 rfl) ?_
            refine lv_lstore (lv' := [(12, .long (lN a4)), (23, .long (lN (a3 % a4))), (10, .long (lN (a1 % a2))), (8, .long (lN a2)), (18, .int 0), (17, .int 0), (21, .long (lN (a3 / a4))), (19, .long (lN (a1 / a2))), (16, .int sg), (14, .long (lN a4))]) hx hb dX6_compare_154 hl (by decide) rfl (fun ls hl => ?_)
            refine lv_lload hx hb dX6_compare_156 (lv_at hl 1 rfl) ?_
            refine lv_lstore (lv' := [(14, .long (lN (a3 % a4))), (12, .long (lN a4)), (23, .long (lN (a3 % a4))), (10, .long (lN (a1 % a2))), (8, .long (lN a2)), (18, .int 0), (17, .int 0), (21, .long (lN (a3 / a4))), (19, .long (lN (a1 / a2))), (16, .int sg)]) hx hb dX6_compare_158 hl (by decide) rfl (fun ls hl => ?_)
            refine lv_iload hx hb dX6_compare_160 (lv_at hl 9 rfl) ?_
            refine lv_ineg hx hb dX6_compare_162 ?_
            refine lv_istore (lv' := [(16, .int (-sg)), (14, .long (lN (a3 % a4))), (12, .long (lN a4)), (23, .long (lN (a3 % a4))), (10, .long (lN (a1 % a2))), (8, .long (lN a2)), (18, .int 0), (17, .int 0), (21, .long (lN (a3 / a4))), (19, .long (lN (a1 / a2)))]) hx hb dX6_compare_163 hl (by decide) rfl (fun ls hl => ?_)
            refine lv_goto (tgt := 23) hx hb dX6_compare_165 (by decide) ?_
            have hl : lv_has ls 25 [(16, .int (-sg)), (14, .long (lN (a3 % a4))), (12, .long (lN a4)), (23, .long (lN (a3 % a4))), (10, .long (lN (a1 % a2))), (8, .long (lN a2)), (18, .int 0), (17, .int 0), (21, .long (lN (a3 / a4))), (19, .long (lN (a1 / a2)))] := hl
            exact ih (a2, a1 % a2, a4, a3 % a4, -sg, 0, 0, 0) (by show 0 < tt; omega) H locs ls ⟨Or.inr ⟨rfl, rfl, er_0 i5 k1 (by omega) (by omega)⟩, hP, hD, hS, (lv_sub hl [6, 7, 0, 1, 2, 4, 5] rfl)⟩
      · have k2 : ¬ a1 % a2 = 0 := fun h => c2 ((lc_e (y := 0) (by omega) (by decide)).mpr h)
        refine lv_lload hx hb dX6_compare_88 (lv_at hl 0 rfl) ?_
        refine lv_lconst (v := 0) hx hb dX6_compare_90 (by decide) ?_
        refine W.lcmp hx hb dX6_compare_91 ?_
        refine lv_if_eq (tgt := 99) hx hb dX6_compare_92 (by decide) (fun c3 => ?_) (fun c3 => ?_)
        · have k3 : a3 % a4 = 0 := (lc_e (y := 0) (by omega) (by decide)).mp c3
          refine lv_iconst (v := 0) hx hb dX6_compare_99 (by decide) ?_
          refine lv_istore (lv' := [(17, .int 0), (12, .long (lN (a3 % a4))), (8, .long (lN (a1 % a2))), (21, .long (lN (a3 / a4))), (19, .long (lN (a1 / a2))), (18, .int fd), (16, .int sg), (14, .long (lN a4)), (10, .long (lN a2))]) hx hb dX6_compare_100 hl (by decide) rfl (fun ls hl => ?_)
          refine lv_iload hx hb dX6_compare_102 (lv_at hl 0 rfl) ?_
          refine lv_if_ne (tgt := 136) hx hb dX6_compare_104 (by decide) (fun c4 => ?_) (fun c4 => ?_)
          · exact absurd rfl c4
          · refine lv_lload hx hb dX6_compare_107 (lv_at hl 2 rfl) ?_
            refine lv_lload hx hb dX6_compare_109 (lv_at hl 1 rfl) ?_
            refine W.lcmp hx hb dX6_compare_111 ?_
            refine lv_if_ne (tgt := 119) hx hb dX6_compare_112 (by decide) (fun c5 => ?_) (fun c5 => ?_)
            · have k5 : ¬ a1 % a2 = a3 % a4 := fun h => c5 ((lc_e (by omega) (by omega)).mpr h)
              refine lv_lload hx hb dX6_compare_119 (lv_at hl 2 rfl) ?_
              refine lv_lconst (v := 0) hx hb dX6_compare_121 (by decide) ?_
              refine W.lcmp hx hb dX6_compare_122 ?_
              refine lv_if_ne (tgt := 132) hx hb dX6_compare_123 (by decide) (fun c6 => ?_) (fun c6 => ?_)
              · have k6 : ¬ a1 % a2 = 0 := fun h => c6 ((lc_e (y := 0) (by omega) (by decide)).mpr h)
                refine lv_iload hx hb dX6_compare_132 (lv_at hl 6 rfl) ?_
                refine lv_istore (lv' := [(18, .int sg), (17, .int 0), (12, .long (lN (a3 % a4))), (8, .long (lN (a1 % a2))), (21, .long (lN (a3 / a4))), (19, .long (lN (a1 / a2))), (16, .int sg), (14, .long (lN a4)), (10, .long (lN a2))]) hx hb dX6_compare_134 hl (by decide) rfl (fun ls hl => ?_)
                refine lv_lload hx hb dX6_compare_136 (lv_at hl 3 rfl) ?_
                refine lv_lstore (lv' := [(23, .long (lN (a1 % a2))), (18, .int sg), (17, .int 0), (12, .long (lN (a3 % a4))), (8, .long (lN (a1 % a2))), (21, .long (lN (a3 / a4))), (19, .long (lN (a1 / a2))), (16, .int sg), (14, .long (lN a4)), (10, .long (lN a2))]) hx hb dX6_compare_138 hl (by decide) rfl (fun ls hl => ?_)
                refine lv_lload hx hb dX6_compare_140 (lv_at hl 9 rfl) ?_
                refine lv_lstore (lv' := [(8, .long (lN a2)), (23, .long (lN (a1 % a2))), (18, .int sg), (17, .int 0), (12, .long (lN (a3 % a4))), (21, .long (lN (a3 / a4))), (19, .long (lN (a1 / a2))), (16, .int sg), (14, .long (lN a4)), (10, .long (lN a2))]) hx hb dX6_compare_142 hl (by decide) rfl (fun ls hl => ?_)
                refine lv_lload hx hb dX6_compare_144 (lv_at hl 1 rfl) ?_
                refine lv_lstore (lv' := [(10, .long (lN (a1 % a2))), (8, .long (lN a2)), (23, .long (lN (a1 % a2))), (18, .int sg), (17, .int 0), (12, .long (lN (a3 % a4))), (21, .long (lN (a3 / a4))), (19, .long (lN (a1 / a2))), (16, .int sg), (14, .long (lN a4))]) hx hb dX6_compare_146 hl (by decide) rfl (fun ls hl => ?_)
                refine lv_lload hx hb dX6_compare_148 (lv_at hl 5 rfl) ?_
                refine lv_lstore (lv' := [(23, .long (lN (a3 % a4))), (10, .long (lN (a1 % a2))), (8, .long (lN a2)), (18, .int sg), (17, .int 0), (12, .long (lN (a3 % a4))), (21, .long (lN (a3 / a4))), (19, .long (lN (a1 / a2))), (16, .int sg), (14, .long (lN a4))]) hx hb dX6_compare_150 hl (by decide) rfl (fun ls hl => ?_)
                refine lv_lload hx hb dX6_compare_152 (lv_at hl 9 rfl) ?_
                refine lv_lstore (lv' := [(12, .long (lN a4)), (23, .long (lN (a3 % a4))), (10, .long (lN (a1 % a2))), (8, .long (lN a2)), (18, .int sg), (17, .int 0), (21, .long (lN (a3 / a4))), (19, .long (lN (a1 / a2))), (16, .int sg), (14, .long (lN a4))]) hx hb dX6_compare_154 hl (by decide) rfl (fun ls hl => ?_)
                refine lv_lload hx hb dX6_compare_156 (lv_at hl 1 rfl) ?_
                refine lv_lstore (lv' := [(14, .long (lN (a3 % a4))), (12, .long (lN a4)), (23, .long (lN (a3 % a4))), (10, .long (lN (a1 % a2))), (8, .long (lN a2)), (18, .int sg), (17, .int 0), (21, .long (lN (a3 / a4))), (19, .long (lN (a1 / a2))), (16, .int sg)]) hx hb dX6_compare_158 hl (by decide) rfl (fun ls hl => ?_)
                refine lv_iload hx hb dX6_compare_160 (lv_at hl 9 rfl) ?_
                refine lv_ineg hx hb dX6_compare_162 ?_
                refine lv_istore (lv' := [(16, .int (-sg)), (14, .long (lN (a3 % a4))), (12, .long (lN a4)), (23, .long (lN (a3 % a4))), (10, .long (lN (a1 % a2))), (8, .long (lN a2)), (18, .int sg), (17, .int 0), (21, .long (lN (a3 / a4))), (19, .long (lN (a1 / a2)))]) hx hb dX6_compare_163 hl (by decide) rfl (fun ls hl => ?_)
                refine lv_goto (tgt := 23) hx hb dX6_compare_165 (by decide) ?_
                have hl : lv_has ls 25 [(16, .int (-sg)), (14, .long (lN (a3 % a4))), (12, .long (lN a4)), (23, .long (lN (a3 % a4))), (10, .long (lN (a1 % a2))), (8, .long (lN a2)), (18, .int sg), (17, .int 0), (21, .long (lN (a3 / a4))), (19, .long (lN (a1 / a2)))] := hl
                exact ih (a2, a1 % a2, a4, a3 % a4, -sg, 0, sg, 0) (by show 0 < tt; omega) H locs ls ⟨Or.inr ⟨rfl, rfl, er_2 i4.1 i5 k1 k6 (by omega)⟩, hP, hD, hS, (lv_sub hl [6, 7, 0, 1, 2, 4, 5] rfl)⟩
              · have k6 : a1 % a2 = 0 := (lc_e (y := 0) (by omega) (by decide)).mp c6
                refine lv_iload hx hb dX6_compare_126 (lv_at hl 6 rfl) ?_
                refine lv_ineg hx hb dX6_compare_128 ?_
                refine lv_goto (tgt := 134) hx hb dX6_compare_129 (by decide) ?_
                refine lv_istore (lv' := [(18, .int (-sg)), (17, .int 0), (12, .long (lN (a3 % a4))), (8, .long (lN (a1 % a2))), (21, .long (lN (a3 / a4))), (19, .long (lN (a1 / a2))), (16, .int sg), (14, .long (lN a4)), (10, .long (lN a2))]) hx hb dX6_compare_134 hl (by decide) rfl (fun ls hl => ?_)
                refine lv_lload hx hb dX6_compare_136 (lv_at hl 3 rfl) ?_
                refine lv_lstore (lv' := [(23, .long (lN (a1 % a2))), (18, .int (-sg)), (17, .int 0), (12, .long (lN (a3 % a4))), (8, .long (lN (a1 % a2))), (21, .long (lN (a3 / a4))), (19, .long (lN (a1 / a2))), (16, .int sg), (14, .long (lN a4)), (10, .long (lN a2))]) hx hb dX6_compare_138 hl (by decide) rfl (fun ls hl => ?_)
                refine lv_lload hx hb dX6_compare_140 (lv_at hl 9 rfl) ?_
                refine lv_lstore (lv' := [(8, .long (lN a2)), (23, .long (lN (a1 % a2))), (18, .int (-sg)), (17, .int 0), (12, .long (lN (a3 % a4))), (21, .long (lN (a3 / a4))), (19, .long (lN (a1 / a2))), (16, .int sg), (14, .long (lN a4)), (10, .long (lN a2))]) hx hb dX6_compare_142 hl (by decide) rfl (fun ls hl => ?_)
                refine lv_lload hx hb dX6_compare_144 (lv_at hl 1 rfl) ?_
                refine lv_lstore (lv' := [(10, .long (lN (a1 % a2))), (8, .long (lN a2)), (23, .long (lN (a1 % a2))), (18, .int (-sg)), (17, .int 0), (12, .long (lN (a3 % a4))), (21, .long (lN (a3 / a4))), (19, .long (lN (a1 / a2))), (16, .int sg), (14, .long (lN a4))]) hx hb dX6_compare_146 hl (by decide) rfl (fun ls hl => ?_)
                refine lv_lload hx hb dX6_compare_148 (lv_at hl 5 rfl) ?_
                refine lv_lstore (lv' := [(23, .long (lN (a3 % a4))), (10, .long (lN (a1 % a2))), (8, .long (lN a2)), (18, .int (-sg)), (17, .int 0), (12, .long (lN (a3 % a4))), (21, .long (lN (a3 / a4))), (19, .long (lN (a1 / a2))), (16, .int sg), (14, .long (lN a4))]) hx hb dX6_compare_150 hl (by decide) rfl (fun ls hl => ?_)
                refine lv_lload hx hb dX6_compare_152 (lv_at hl 9 rfl) ?_
                refine lv_lstore (lv' := [(12, .long (lN a4)), (23, .long (lN (a3 % a4))), (10, .long (lN (a1 % a2))), (8, .long (lN a2)), (18, .int (-sg)), (17, .int 0), (21, .long (lN (a3 / a4))), (19, .long (lN (a1 / a2))), (16, .int sg), (14, .long (lN a4))]) hx hb dX6_compare_154 hl (by decide) rfl (fun ls hl => ?_)
                refine lv_lload hx hb dX6_compare_156 (lv_at hl 1 rfl) ?_
                refine lv_lstore (lv' := [(14, .long (lN (a3 % a4))), (12, .long (lN a4)), (23, .long (lN (a3 % a4))), (10, .long (lN (a1 % a2))), (8, .long (lN a2)), (18, .int (-sg)), (17, .int 0), (21, .long (lN (a3 / a4))), (19, .long (lN (a1 / a2))), (16, .int sg)]) hx hb dX6_compare_158 hl (by decide) rfl (fun ls hl => ?_)
                refine lv_iload hx hb dX6_compare_160 (lv_at hl 9 rfl) ?_
                refine lv_ineg hx hb dX6_compare_162 ?_
                refine lv_istore (lv' := [(16, .int (-sg)), (14, .long (lN (a3 % a4))), (12, .long (lN a4)), (23, .long (lN (a3 % a4))), (10, .long (lN (a1 % a2))), (8, .long (lN a2)), (18, .int (-sg)), (17, .int 0), (21, .long (lN (a3 / a4))), (19, .long (lN (a1 / a2)))]) hx hb dX6_compare_163 hl (by decide) rfl (fun ls hl => ?_)
                refine lv_goto (tgt := 23) hx hb dX6_compare_165 (by decide) ?_
                have hl : lv_has ls 25 [(16, .int (-sg)), (14, .long (lN (a3 % a4))), (12, .long (lN a4)), (23, .long (lN (a3 % a4))), (10, .long (lN (a1 % a2))), (8, .long (lN a2)), (18, .int (-sg)), (17, .int 0), (21, .long (lN (a3 / a4))), (19, .long (lN (a1 / a2)))] := hl
                exact ih (a2, a1 % a2, a4, a3 % a4, -sg, 0, -sg, 0) (by show 0 < tt; omega) H locs ls ⟨Or.inr ⟨rfl, rfl, er_1 i2.1 i5 k1 k6 (by omega)⟩, hP, hD, hS, (lv_sub hl [6, 7, 0, 1, 2, 4, 5] rfl)⟩
            · have k5 : a1 % a2 = a3 % a4 := (lc_e (by omega) (by omega)).mp c5
              refine lv_iconst (v := 0) hx hb dX6_compare_115 (by decide) ?_
              refine lv_goto (tgt := 134) hx hb dX6_compare_116 (by decide) ?_
              refine lv_istore (lv' := [(18, .int 0), (17, .int 0), (12, .long (lN (a3 % a4))), (8, .long (lN (a1 % a2))), (21, .long (lN (a3 / a4))), (19, .long (lN (a1 / a2))), (16, .int sg), (14, .long (lN a4)), (10, .long (lN a2))]) hx hb dX6_compare_134 hl (by decide) rfl (fun ls hl => ?_)
              refine lv_lload hx hb dX6_compare_136 (lv_at hl 3 rfl) ?_
              refine lv_lstore (lv' := [(23, .long (lN (a1 % a2))), (18, .int 0), (17, .int 0), (12, .long (lN (a3 % a4))), (8, .long (lN (a1 % a2))), (21, .long (lN (a3 / a4))), (19, .long (lN (a1 / a2))), (16, .int sg), (14, .long (lN a4)), (10, .long (lN a2))]) hx hb dX6_compare_138 hl (by decide) rfl (fun ls hl => ?_)
              refine lv_lload hx hb dX6_compare_140 (lv_at hl 9 rfl) ?_
              refine lv_lstore (lv' := [(8, .long (lN a2)), (23, .long (lN (a1 % a2))), (18, .int 0), (17, .int 0), (12, .long (lN (a3 % a4))), (21, .long (lN (a3 / a4))), (19, .long (lN (a1 / a2))), (16, .int sg), (14, .long (lN a4)), (10, .long (lN a2))]) hx hb dX6_compare_142 hl (by decide) rfl (fun ls hl => ?_)
              refine lv_lload hx hb dX6_compare_144 (lv_at hl 1 rfl) ?_
              refine lv_lstore (lv' := [(10, .long (lN (a1 % a2))), (8, .long (lN a2)), (23, .long (lN (a1 % a2))), (18, .int 0), (17, .int 0), (12, .long (lN (a3 % a4))), (21, .long (lN (a3 / a4))), (19, .long (lN (a1 / a2))), (16, .int sg), (14, .long (lN a4))]) hx hb dX6_compare_146 hl (by decide) rfl (fun ls hl => ?_)
              refine lv_lload hx hb dX6_compare_148 (lv_at hl 5 rfl) ?_
              refine lv_lstore (lv' := [(23, .long (lN (a3 % a4))), (10, .long (lN (a1 % a2))), (8, .long (lN a2)), (18, .int 0), (17, .int 0), (12, .long (lN (a3 % a4))), (21, .long (lN (a3 / a4))), (19, .long (lN (a1 / a2))), (16, .int sg), (14, .long (lN a4))]) hx hb dX6_compare_150 hl (by decide) rfl (fun ls hl => ?_)
              refine lv_lload hx hb dX6_compare_152 (lv_at hl 9 rfl) ?_
              refine lv_lstore (lv' := [(12, .long (lN a4)), (23, .long (lN (a3 % a4))), (10, .long (lN (a1 % a2))), (8, .long (lN a2)), (18, .int 0), (17, .int 0), (21, .long (lN (a3 / a4))), (19, .long (lN (a1 / a2))), (16, .int sg), (14, .long (lN a4))]) hx hb dX6_compare_154 hl (by decide) rfl (fun ls hl => ?_)
              refine lv_lload hx hb dX6_compare_156 (lv_at hl 1 rfl) ?_
              refine lv_lstore (lv' := [(14, .long (lN (a3 % a4))), (12, .long (lN a4)), (23, .long (lN (a3 % a4))), (10, .long (lN (a1 % a2))), (8, .long (lN a2)), (18, .int 0), (17, .int 0), (21, .long (lN (a3 / a4))), (19, .long (lN (a1 / a2))), (16, .int sg)]) hx hb dX6_compare_158 hl (by decide) rfl (fun ls hl => ?_)
              refine lv_iload hx hb dX6_compare_160 (lv_at hl 9 rfl) ?_
              refine lv_ineg hx hb dX6_compare_162 ?_
              refine lv_istore (lv' := [(16, .int (-sg)), (14, .long (lN (a3 % a4))), (12, .long (lN a4)), (23, .long (lN (a3 % a4))), (10, .long (lN (a1 % a2))), (8, .long (lN a2)), (18, .int 0), (17, .int 0), (21, .long (lN (a3 / a4))), (19, .long (lN (a1 / a2)))]) hx hb dX6_compare_163 hl (by decide) rfl (fun ls hl => ?_)
              refine lv_goto (tgt := 23) hx hb dX6_compare_165 (by decide) ?_
              have hl : lv_has ls 25 [(16, .int (-sg)), (14, .long (lN (a3 % a4))), (12, .long (lN a4)), (23, .long (lN (a3 % a4))), (10, .long (lN (a1 % a2))), (8, .long (lN a2)), (18, .int 0), (17, .int 0), (21, .long (lN (a3 / a4))), (19, .long (lN (a1 / a2)))] := hl
              exact ih (a2, a1 % a2, a4, a3 % a4, -sg, 0, 0, 0) (by show 0 < tt; omega) H locs ls ⟨Or.inr ⟨rfl, rfl, er_0 i5 k1 (by omega) (by omega)⟩, hP, hD, hS, (lv_sub hl [6, 7, 0, 1, 2, 4, 5] rfl)⟩
        · have k3 : ¬ a3 % a4 = 0 := fun h => c3 ((lc_e (y := 0) (by omega) (by decide)).mpr h)
          refine lv_iconst (v := 1) hx hb dX6_compare_95 (by decide) ?_
          refine lv_goto (tgt := 100) hx hb dX6_compare_96 (by decide) ?_
          refine lv_istore (lv' := [(17, .int 1), (12, .long (lN (a3 % a4))), (8, .long (lN (a1 % a2))), (21, .long (lN (a3 / a4))), (19, .long (lN (a1 / a2))), (18, .int fd), (16, .int sg), (14, .long (lN a4)), (10, .long (lN a2))]) hx hb dX6_compare_100 hl (by decide) rfl (fun ls hl => ?_)
          refine lv_iload hx hb dX6_compare_102 (lv_at hl 0 rfl) ?_
          refine lv_if_ne (tgt := 136) hx hb dX6_compare_104 (by decide) (fun c4 => ?_) (fun c4 => ?_)
          · refine lv_lload hx hb dX6_compare_136 (lv_at hl 2 rfl) ?_
            refine lv_lstore (lv' := [(23, .long (lN (a1 % a2))), (17, .int 1), (12, .long (lN (a3 % a4))), (8, .long (lN (a1 % a2))), (21, .long (lN (a3 / a4))), (19, .long (lN (a1 / a2))), (18, .int fd), (16, .int sg), (14, .long (lN a4)), (10, .long (lN a2))]) hx hb dX6_compare_138 hl (by decide) rfl (fun ls hl => ?_)
            refine lv_lload hx hb dX6_compare_140 (lv_at hl 9 rfl) ?_
            refine lv_lstore (lv' := [(8, .long (lN a2)), (23, .long (lN (a1 % a2))), (17, .int 1), (12, .long (lN (a3 % a4))), (21, .long (lN (a3 / a4))), (19, .long (lN (a1 / a2))), (18, .int fd), (16, .int sg), (14, .long (lN a4)), (10, .long (lN a2))]) hx hb dX6_compare_142 hl (by decide) rfl (fun ls hl => ?_)
            refine lv_lload hx hb dX6_compare_144 (lv_at hl 1 rfl) ?_
            refine lv_lstore (lv' := [(10, .long (lN (a1 % a2))), (8, .long (lN a2)), (23, .long (lN (a1 % a2))), (17, .int 1), (12, .long (lN (a3 % a4))), (21, .long (lN (a3 / a4))), (19, .long (lN (a1 / a2))), (18, .int fd), (16, .int sg), (14, .long (lN a4))]) hx hb dX6_compare_146 hl (by decide) rfl (fun ls hl => ?_)
            refine lv_lload hx hb dX6_compare_148 (lv_at hl 4 rfl) ?_
            refine lv_lstore (lv' := [(23, .long (lN (a3 % a4))), (10, .long (lN (a1 % a2))), (8, .long (lN a2)), (17, .int 1), (12, .long (lN (a3 % a4))), (21, .long (lN (a3 / a4))), (19, .long (lN (a1 / a2))), (18, .int fd), (16, .int sg), (14, .long (lN a4))]) hx hb dX6_compare_150 hl (by decide) rfl (fun ls hl => ?_)
            refine lv_lload hx hb dX6_compare_152 (lv_at hl 9 rfl) ?_
            refine lv_lstore (lv' := [(12, .long (lN a4)), (23, .long (lN (a3 % a4))), (10, .long (lN (a1 % a2))), (8, .long (lN a2)), (17, .int 1), (21, .long (lN (a3 / a4))), (19, .long (lN (a1 / a2))), (18, .int fd), (16, .int sg), (14, .long (lN a4))]) hx hb dX6_compare_154 hl (by decide) rfl (fun ls hl => ?_)
            refine lv_lload hx hb dX6_compare_156 (lv_at hl 1 rfl) ?_
            refine lv_lstore (lv' := [(14, .long (lN (a3 % a4))), (12, .long (lN a4)), (23, .long (lN (a3 % a4))), (10, .long (lN (a1 % a2))), (8, .long (lN a2)), (17, .int 1), (21, .long (lN (a3 / a4))), (19, .long (lN (a1 / a2))), (18, .int fd), (16, .int sg)]) hx hb dX6_compare_158 hl (by decide) rfl (fun ls hl => ?_)
            refine lv_iload hx hb dX6_compare_160 (lv_at hl 9 rfl) ?_
            refine lv_ineg hx hb dX6_compare_162 ?_
            refine lv_istore (lv' := [(16, .int (-sg)), (14, .long (lN (a3 % a4))), (12, .long (lN a4)), (23, .long (lN (a3 % a4))), (10, .long (lN (a1 % a2))), (8, .long (lN a2)), (17, .int 1), (21, .long (lN (a3 / a4))), (19, .long (lN (a1 / a2))), (18, .int fd)]) hx hb dX6_compare_163 hl (by decide) rfl (fun ls hl => ?_)
            refine lv_goto (tgt := 23) hx hb dX6_compare_165 (by decide) ?_
            have hl : lv_has ls 25 [(16, .int (-sg)), (14, .long (lN (a3 % a4))), (12, .long (lN a4)), (23, .long (lN (a3 % a4))), (10, .long (lN (a1 % a2))), (8, .long (lN a2)), (17, .int 1), (21, .long (lN (a3 / a4))), (19, .long (lN (a1 / a2))), (18, .int fd)] := hl
            exact ih (a2, a1 % a2, a4, a3 % a4, -sg, 1, fd, a1 % a2 + 1) (by show (a1 % a2 + 1) < tt; omega) H locs ls ⟨Or.inl ⟨rfl, rfl, i2.2, ⟨by omega, by omega⟩, i4.2, ⟨by omega, by omega⟩, er_3 i5 k1⟩, hP, hD, hS, (lv_sub hl [9, 6, 0, 1, 2, 4, 5] rfl)⟩
          · exact absurd c4 (by decide)
    · have k1 : ¬ a1 / a2 = a3 / a4 := fun h => c1 ((lc_e d1 d3).mpr h)
      refine lv_lload hx hb dX6_compare_50 (lv_at hl 1 rfl) ?_
      refine lv_lload hx hb dX6_compare_52 (lv_at hl 0 rfl) ?_
      refine W.lcmp hx hb dX6_compare_54 ?_
      refine lv_if_ge (tgt := 64) hx hb dX6_compare_55 (by decide) (fun c2 => ?_) (fun c2 => ?_)
      · have k2 : a3 / a4 ≤ a1 / a2 := (lc_g d1 d3).mp c2
        refine lv_iload hx hb dX6_compare_64 (lv_at hl 4 rfl) ?_
        have hP9 := hP.sub (ws' := []) [] rfl
        have hD9 := hD.sub (ws' := []) [] (by decide) rfl
        exact W.iret (v := sg) hx hb hr (fun t ht hW => ⟨⟨sg, (), rfl, er_g i2.1 i4.1 i5 (by omega), by rw [ht]; exact hP9, va_K.moved hW.alike hK, hD9⟩, hS.F ht⟩) hS.2.2 dX6_compare_66
      · have k2 : ¬ a3 / a4 ≤ a1 / a2 := fun h => c2 ((lc_g d1 d3).mpr h)
        refine lv_iload hx hb dX6_compare_58 (lv_at hl 4 rfl) ?_
        refine lv_ineg hx hb dX6_compare_60 ?_
        refine lv_goto (tgt := 66) hx hb dX6_compare_61 (by decide) ?_
        have hP9 := hP.sub (ws' := []) [] rfl
        have hD9 := hD.sub (ws' := []) [] (by decide) rfl
        exact W.iret (v := (-sg)) hx hb hr (fun t ht hW => ⟨⟨-sg, (), rfl, er_l i2.1 i4.1 i5 (by omega), by rw [ht]; exact hP9, va_K.moved hW.alike hK, hD9⟩, hS.F ht⟩) hS.2.2 dX6_compare_66
end
