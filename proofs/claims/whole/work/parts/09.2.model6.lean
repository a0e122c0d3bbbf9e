section
theorem ikX6_cut_X6 : ∀ w ∈ wsX60, w ∈ wsX6_cut := by decide +kernel
set_option maxHeartbeats 1000000 in
set_option maxRecDepth 100000 in
theorem kX6_cut (l : Launch) (g : va_G) (cI cJ cZ : ClassId) (sz : Nat) (ma : Nat) (th : Int32) (sn : Int32) (x0 : Int64) (y0 : Int64) (dx : Int64) (dy : Int64) (zk : Nat) (zp : Nat) (za : Nat) (zb : Nat) (zx : Nat) (zy : Nat) (zf : Nat) (zt : Nat) (zw : Nat) (zm : Nat) (zh : Nat) (zz : Nat) (zo : Nat) (zu : Nat) (ov : Nat → Int64) (un : Nat → Int64) (F : List (Nat × Nat)) (fa : Nat) (fb : Nat) (hf : fl2_ ov un F) (hk1 : fok_ F) (hln : F.length < 12400) (b1 : fa < 2 ^ 63) (b2 : 0 < fb ∧ fb < 2 ^ 63) : Met l yX6_cut wsX6_cut ({ frames := 1, cells := 0, slots := 0, locals := 44 }) (pc_ g cI cJ cZ [.ref ma, .long (lN fa), .long (lN fb)] [(ma, .inr (6, mo_ th zk zp za zb zx zy sn zf zt zw zm zh x0 y0 dx dy zz (nI F.length) zo zu)), (zo, .inl (cJ, 12400, .inr (.inl ov))), (zu, .inl (cJ, 12400, .inr (.inl un)))] sz) (va_Qv (fun (u : (Nat → Int64) × (Nat → Int64)) => match u with | (ov2, un2) => fl2_ ov2 un2 (ins_ F (fa, fb))) (fun (u : (Nat → Int64) × (Nat → Int64)) t => match u with | (ov2, un2) => wd_ g cI cJ cZ (va_A [(ma, .inr (6, mo_ th zk zp za zb zx zy sn zf zt zw zm zh x0 y0 dx dy zz (nI F.length) zo zu)), (zo, .inl (cJ, 12400, .inr (.inl ov))), (zu, .inl (cJ, 12400, .inr (.inl un)))] sz) [(ma, .inr (6, mo_ th zk zp za zb zx zy sn zf zt zw zm zh x0 y0 dx dy zz (nI (ins_ F (fa, fb)).length) zo zu)), (zo, .inl (cJ, 12400, .inr (.inl ov2))), (zu, .inl (cJ, 12400, .inr (.inl un2)))] t) (va_A [(ma, .inr (6, mo_ th zk zp za zb zx zy sn zf zt zw zm zh x0 y0 dx dy zz (nI F.length) zo zu)), (zo, .inl (cJ, 12400, .inr (.inl ov))), (zu, .inl (cJ, 12400, .inr (.inl un)))] sz)) (0) (0) (va_A [(ma, .inr (6, mo_ th zk zp za zb zx zy sn zf zt zw zm zh x0 y0 dx dy zz (nI F.length) zo zu)), (zo, .inl (cJ, 12400, .inr (.inl ov))), (zu, .inl (cJ, 12400, .inr (.inl un)))] sz) := by
  refine Met.ofW (cc := cX6_cut) (maxL := 8) (ret := none) (by decide) rfl ?_
  intro p e s m args below meth c s₁ B hml hv
  obtain ⟨rfl, hsz, hP, hK, hD0⟩ := hv
  have hx := B.exec
  have hb := B.bytes
  have hr := B.returns
  have hts := atoms_spec (ws := wsX6_cut) B.pre
  have hown : s.vm.findClass RX6 = some m.cls := findClass_of_methodNamed B.named
  have hlocks := B.notSynchronized
  subst hsz
  have hD := hD0.self (sz := s.heap.size)
  generalize hAe : va_A [(ma, .inr (6, mo_ th zk zp za zb zx zy sn zf zt zw zm zh x0 y0 dx dy zz (nI F.length) zo zu)), (zo, .inl (cJ, 12400, .inr (.inl ov))), (zu, .inl (cJ, 12400, .inr (.inl un)))] s.heap.size = A at hD ⊢
  have hA : ∀ q : Nat, s.heap.size ≤ q → A q := fun q h => by rw [← hAe]; exact Or.inr h
  have hS : va_S A s.heap s.heap [] := va_S.rf
  have hP : va_P g vwCl [(ma, .inr (6, mo_ th zk zp za zb zx zy sn zf zt zw zm zh x0 y0 dx dy zz (nI F.length) zo zu)), (zo, .inl (cJ, 12400, .inr (.inl ov))), (zu, .inl (cJ, 12400, .inr (.inl un)))] s.heap := hP
  have hl := lv_entry ([.ref ma, .long (lN fa), .long (lN fb)]) (n := 8) (Nat.le_of_ble_eq_true rfl)
  rw [lg_entry_eq]
  generalize (lg_sl ([.ref ma, .long (lN fa), .long (lN fb)]) ++ List.replicate (8 - (lg_sl ([.ref ma, .long (lN fa), .long (lN fb)])).length) Slot.unset).toArray = ls at hl ⊢
  have hl : lv_has ls 8 [(0, .ref ma), (1, .long (lN fa)), (3, .long (lN fb))] := hl
  have hH0 : s.heap = s.heap := rfl
  have hiX6 := ikX6_cut_X6
  refine lv_aload_n hx hb dX6_cut_0 rfl (lv_at hl 0 rfl) ?_
  refine va_get (D := g) (ci := 6) (v := .int (nI F.length)) (C := RX6) (T := TX6) (N := 21) hx hb hts hiX6 hown hK hP 0 rfl rfl 18 (by decide) (hts (.fieldLink RX6 176 "ShapeRelatorModel" "cuts" "I") (List.mem_of_getElem? (i := 1) rfl)) (fun _ h9 => h9) rfl dX6_cut_1 ?_
  refine lv_istore (lv' := [(5, .int (nI F.length)), (0, .ref ma), (1, .long (lN fa)), (3, .long (lN fb))]) hx hb dX6_cut_4 hl (by decide) rfl (fun ls hl => ?_)
  refine lv_iconst (v := 1) hx hb dX6_cut_6 (by decide) ?_
  refine lv_istore (lv' := [(6, .int 1), (5, .int (nI F.length)), (0, .ref ma), (1, .long (lN fa)), (3, .long (lN fb))]) hx hb dX6_cut_7 hl (by decide) rfl (fun ls hl => ?_)
  refine lpW (σ := Nat × Int32 × Nat) (fun (k, mo, tt) => tt) (fun (k, mo, tt) => 0) (fun (k, mo, tt) => 0) (fun (k, mo, tt) H locs ls => (k ≤ F.length ∧ ((mo = 1 ∧ tt = 2 * k + 1 ∧ fk_ F (fa, fb) F.length = fk_ F (fa, fb) k) ∨ (mo = 0 ∧ tt = 2 * k ∧ fk_ F (fa, fb) F.length = some k))) ∧ va_P g vwCl [(ma, .inr (6, mo_ th zk zp za zb zx zy sn zf zt zw zm zh x0 y0 dx dy zz (nI F.length) zo zu)), (zo, .inl (cJ, 12400, .inr (.inl ov))), (zu, .inl (cJ, 12400, .inr (.inl un)))] H ∧ va_D A [(ma, .inr (6, mo_ th zk zp za zb zx zy sn zf zt zw zm zh x0 y0 dx dy zz (nI F.length) zo zu)), (zo, .inl (cJ, 12400, .inr (.inl ov))), (zu, .inl (cJ, 12400, .inr (.inl un)))] ∧ va_S A s.heap H locs ∧ lv_has ls 8 [(6, .int mo), (5, .int (nI k)), (1, .long (lN fa)), (3, .long (lN fb)), (0, .ref ma)]) (fun x ih H locs ls hI => ?_) (F.length, 1, 2 * F.length + 1) rfl rfl ⟨⟨Nat.le_refl _, Or.inl ⟨rfl, rfl, rfl⟩⟩, hP, hD, hS, (lv_sub hl [0, 1, 3, 4, 2] rfl)⟩
  obtain ⟨k, mo, tt⟩ := x
  obtain ⟨hi, hP, hD, hS, hl⟩ := hI
  have hP : va_P g vwCl [(ma, .inr (6, mo_ th zk zp za zb zx zy sn zf zt zw zm zh x0 y0 dx dy zz (nI F.length) zo zu)), (zo, .inl (cJ, 12400, .inr (.inl ov))), (zu, .inl (cJ, 12400, .inr (.inl un)))] H := hP
  have hD : va_D A [(ma, .inr (6, mo_ th zk zp za zb zx zy sn zf zt zw zm zh x0 y0 dx dy zz (nI F.length) zo zu)), (zo, .inl (cJ, 12400, .inr (.inl ov))), (zu, .inl (cJ, 12400, .inr (.inl un)))] := hD
  have hl : lv_has ls 8 [(6, .int mo), (5, .int (nI k)), (1, .long (lN fa)), (3, .long (lN fb)), (0, .ref ma)] := hl
  show W p l e _ s m _ below meth c H locs (0) (0) _ (F0 m 9 ls [])
  obtain ⟨i1, i2⟩ := hi
  refine lv_iload hx hb dX6_cut_9 (lv_at hl 1 rfl) ?_
  refine lv_if_le (tgt := 73) hx hb dX6_cut_11 (by decide) (fun c1 => ?_) (fun c1 => ?_)
  · have e1 : k = 0 := by rw [Int32.le_iff_toInt_le, nI_toInt (by omega)] at c1; simp at c1; omega
    have ek : fk_ F (fa, fb) F.length = some k := by rcases i2 with q | q; (· rw [q.2.2, e1]; rfl); exact q.2.2
    refine lv_aload_n hx hb dX6_cut_73 rfl (lv_at hl 4 rfl) ?_
    refine va_get (D := g) (ci := 6) (v := .int (nI F.length)) (C := RX6) (T := TX6) (N := 21) hx hb hts hiX6 hown hK hP 0 rfl rfl 18 (by decide) (hts (.fieldLink RX6 176 "ShapeRelatorModel" "cuts" "I") (List.mem_of_getElem? (i := 1) rfl)) (fun _ h9 => h9) rfl dX6_cut_74 ?_
    refine lv_istore (lv' := [(7, .int (nI F.length)), (6, .int mo), (5, .int (nI k)), (1, .long (lN fa)), (3, .long (lN fb)), (0, .ref ma)]) hx hb dX6_cut_77 hl (by decide) rfl (fun ls hl => ?_)
    have zo0 : shf_ ov F.length F.length = ov := shf_0
    have zu0 : shf_ un F.length F.length = un := shf_0
    rw [← zo0, ← zu0] at hP hD
    have hP : va_P g vwCl [(ma, .inr (6, mo_ th zk zp za zb zx zy sn zf zt zw zm zh x0 y0 dx dy zz (nI F.length) zo zu)), (zo, .inl (cJ, 12400, .inr (.inl (shf_ ov F.length F.length)))), (zu, .inl (cJ, 12400, .inr (.inl (shf_ un F.length F.length))))] H := hP
    have hD : va_D A [(ma, .inr (6, mo_ th zk zp za zb zx zy sn zf zt zw zm zh x0 y0 dx dy zz (nI F.length) zo zu)), (zo, .inl (cJ, 12400, .inr (.inl (shf_ ov F.length F.length)))), (zu, .inl (cJ, 12400, .inr (.inl (shf_ un F.length F.length))))] := hD
    refine lpW (σ := Nat) (fun i => i) (fun i => 0) (fun i => 0) (fun i H locs ls => (k ≤ i ∧ i ≤ F.length) ∧ va_P g vwCl [(ma, .inr (6, mo_ th zk zp za zb zx zy sn zf zt zw zm zh x0 y0 dx dy zz (nI F.length) zo zu)), (zo, .inl (cJ, 12400, .inr (.inl (shf_ ov i F.length)))), (zu, .inl (cJ, 12400, .inr (.inl (shf_ un i F.length))))] H ∧ va_D A [(ma, .inr (6, mo_ th zk zp za zb zx zy sn zf zt zw zm zh x0 y0 dx dy zz (nI F.length) zo zu)), (zo, .inl (cJ, 12400, .inr (.inl (shf_ ov i F.length)))), (zu, .inl (cJ, 12400, .inr (.inl (shf_ un i F.length))))] ∧ va_S A s.heap H locs ∧ lv_has ls 8 [(7, .int (nI i)), (5, .int (nI k)), (1, .long (lN fa)), (3, .long (lN fb)), (0, .ref ma)]) (fun x ih H locs ls hI => ?_) F.length rfl rfl ⟨⟨i1, Nat.le_refl _⟩, hP, hD, hS, (lv_sub hl [0, 2, 3, 4, 5] rfl)⟩
    obtain ⟨i, rfl⟩ : ∃ z, z = x := ⟨_, rfl⟩
    obtain ⟨hj, hP, hD, hS, hl⟩ := hI
    have hP : va_P g vwCl [(ma, .inr (6, mo_ th zk zp za zb zx zy sn zf zt zw zm zh x0 y0 dx dy zz (nI F.length) zo zu)), (zo, .inl (cJ, 12400, .inr (.inl (shf_ ov i F.length)))), (zu, .inl (cJ, 12400, .inr (.inl (shf_ un i F.length))))] H := hP
    have hD : va_D A [(ma, .inr (6, mo_ th zk zp za zb zx zy sn zf zt zw zm zh x0 y0 dx dy zz (nI F.length) zo zu)), (zo, .inl (cJ, 12400, .inr (.inl (shf_ ov i F.length)))), (zu, .inl (cJ, 12400, .inr (.inl (shf_ un i F.length))))] := hD
    have hl : lv_has ls 8 [(7, .int (nI i)), (5, .int (nI k)), (1, .long (lN fa)), (3, .long (lN fb)), (0, .ref ma)] := hl
    obtain ⟨j1, j2⟩ := hj
    refine lv_iload hx hb dX6_cut_79 (lv_at hl 0 rfl) ?_
    refine lv_iload hx hb dX6_cut_81 (lv_at hl 1 rfl) ?_
    refine lv_icmp_le (tgt := 124) hx hb dX6_cut_83 (by decide) (fun c8 => ?_) (fun c8 => ?_)
    · have e8 : i = k := by have := (nI_leI (by omega) (by omega)).mp c8; omega
      subst e8
      refine lv_aload_n hx hb dX6_cut_124 rfl (lv_at hl 4 rfl) ?_
      refine va_get (D := g) (ci := 6) (v := .ref zo) (C := RX6) (T := TX6) (N := 21) hx hb hts hiX6 hown hK hP 0 rfl rfl 19 (by decide) (hts (.fieldLink RX6 48 "ShapeRelatorModel" "overs" "[J") (List.mem_of_getElem? (i := 2) rfl)) (fun _ h9 => h9) rfl dX6_cut_125 ?_
      refine lv_iload hx hb dX6_cut_128 (lv_at hl 1 rfl) ?_
      refine lv_lload_n hx hb dX6_cut_130 rfl (lv_at hl 2 rfl) ?_
      refine va_last (D := g) hx hb hK hP hD hS 1 1 rfl rfl (vp_in_nI (show i < 12400 by omega) (by decide)) dX6_cut_131 (fun H locs hP hD hS => ?_)
      rw [nI_clamp (show i < 2 ^ 31 by omega)] at hP hD
      have hP : va_P g vwCl [(ma, .inr (6, mo_ th zk zp za zb zx zy sn zf zt zw zm zh x0 y0 dx dy zz (nI F.length) zo zu)), (zo, .inl (cJ, 12400, .inr (.inl (vp_updL (shf_ ov i F.length) i (lN fa))))), (zu, .inl (cJ, 12400, .inr (.inl (shf_ un i F.length))))] H := hP
      have hD : va_D A [(ma, .inr (6, mo_ th zk zp za zb zx zy sn zf zt zw zm zh x0 y0 dx dy zz (nI F.length) zo zu)), (zo, .inl (cJ, 12400, .inr (.inl (vp_updL (shf_ ov i F.length) i (lN fa))))), (zu, .inl (cJ, 12400, .inr (.inl (shf_ un i F.length))))] := hD
      refine lv_aload_n hx hb dX6_cut_132 rfl (lv_at hl 4 rfl) ?_
      refine va_get (D := g) (ci := 6) (v := .ref zu) (C := RX6) (T := TX6) (N := 21) hx hb hts hiX6 hown hK hP 0 rfl rfl 20 (by decide) (hts (.fieldLink RX6 51 "ShapeRelatorModel" "unders" "[J") (List.mem_of_getElem? (i := 3) rfl)) (fun _ h9 => h9) rfl dX6_cut_133 ?_
      refine lv_iload hx hb dX6_cut_136 (lv_at hl 1 rfl) ?_
      refine lv_lload_n hx hb dX6_cut_138 rfl (lv_at hl 3 rfl) ?_
      refine va_last (D := g) hx hb hK hP hD hS 2 1 rfl rfl (vp_in_nI (show i < 12400 by omega) (by decide)) dX6_cut_139 (fun H locs hP hD hS => ?_)
      rw [nI_clamp (show i < 2 ^ 31 by omega)] at hP hD
      have hP : va_P g vwCl [(ma, .inr (6, mo_ th zk zp za zb zx zy sn zf zt zw zm zh x0 y0 dx dy zz (nI F.length) zo zu)), (zo, .inl (cJ, 12400, .inr (.inl (vp_updL (shf_ ov i F.length) i (lN fa))))), (zu, .inl (cJ, 12400, .inr (.inl (vp_updL (shf_ un i F.length) i (lN fb)))))] H := hP
      have hD : va_D A [(ma, .inr (6, mo_ th zk zp za zb zx zy sn zf zt zw zm zh x0 y0 dx dy zz (nI F.length) zo zu)), (zo, .inl (cJ, 12400, .inr (.inl (vp_updL (shf_ ov i F.length) i (lN fa))))), (zu, .inl (cJ, 12400, .inr (.inl (vp_updL (shf_ un i F.length) i (lN fb)))))] := hD
      refine lv_aload_n hx hb dX6_cut_140 rfl (lv_at hl 4 rfl) ?_
      refine lv_dup hx hb dX6_cut_141 rfl ?_
      refine va_get (D := g) (ci := 6) (v := .int (nI F.length)) (C := RX6) (T := TX6) (N := 21) hx hb hts hiX6 hown hK hP 0 rfl rfl 18 (by decide) (hts (.fieldLink RX6 176 "ShapeRelatorModel" "cuts" "I") (List.mem_of_getElem? (i := 1) rfl)) (fun _ h9 => h9) rfl dX6_cut_142 ?_
      refine lv_iconst (v := 1) hx hb dX6_cut_145 (by decide) ?_
      have eL : (ins_ F (fa, fb)).length = F.length + 1 := by rw [ins_s ek, List.length_append, List.length_cons, List.length_take, List.length_drop]; omega
      refine lv_iadd hx hb dX6_cut_146 ?_
      refine tpi_ (y := (nI (ins_ F (fa, fb)).length)) (by rw [eL]; exact (nI_1 _).symm) ?_
      refine va_put (D := g) (ci := 6) (v := .int (nI (ins_ F (fa, fb)).length)) (ty := .int) (C := RX6) (T := TX6) (N := 21) hx hb hts hiX6 tyX6 tyX6_ok nmX6 hown hK hP hD hS 0 rfl rfl 18 (by decide) (hts (.fieldLink RX6 176 "ShapeRelatorModel" "cuts" "I") (List.mem_of_getElem? (i := 1) rfl)) (fun _ h9 => h9) rfl (by decide +kernel) rfl rfl (Nat.le_of_ble_eq_true rfl) dX6_cut_147 (fun H locs hP hD hS => ?_)
      have hP : va_P g vwCl [(ma, .inr (6, mo_ th zk zp za zb zx zy sn zf zt zw zm zh x0 y0 dx dy zz (nI (ins_ F (fa, fb)).length) zo zu)), (zo, .inl (cJ, 12400, .inr (.inl (vp_updL (shf_ ov i F.length) i (lN fa))))), (zu, .inl (cJ, 12400, .inr (.inl (vp_updL (shf_ un i F.length) i (lN fb)))))] H := hP
      have hD : va_D A [(ma, .inr (6, mo_ th zk zp za zb zx zy sn zf zt zw zm zh x0 y0 dx dy zz (nI (ins_ F (fa, fb)).length) zo zu)), (zo, .inl (cJ, 12400, .inr (.inl (vp_updL (shf_ ov i F.length) i (lN fa))))), (zu, .inl (cJ, 12400, .inr (.inl (vp_updL (shf_ un i F.length) i (lN fb)))))] := hD
      have hP9 := hP.sub (ws' := [(ma, .inr (6, mo_ th zk zp za zb zx zy sn zf zt zw zm zh x0 y0 dx dy zz (nI (ins_ F (fa, fb)).length) zo zu)), (zo, .inl (cJ, 12400, .inr (.inl (vp_updL (shf_ ov i F.length) i (lN fa))))), (zu, .inl (cJ, 12400, .inr (.inl (vp_updL (shf_ un i F.length) i (lN fb)))))]) [0, 1, 2] rfl
      have hD9 := hD.sub (ws' := [(ma, .inr (6, mo_ th zk zp za zb zx zy sn zf zt zw zm zh x0 y0 dx dy zz (nI (ins_ F (fa, fb)).length) zo zu)), (zo, .inl (cJ, 12400, .inr (.inl (vp_updL (shf_ ov i F.length) i (lN fa))))), (zu, .inl (cJ, 12400, .inr (.inl (vp_updL (shf_ un i F.length) i (lN fb)))))]) [0, 1, 2] (by decide) rfl
      exact W.vret hx hb hr (fun t ht hW => ⟨⟨(vp_updL (shf_ ov i F.length) i (lN fa), vp_updL (shf_ un i F.length) i (lN fb)), rfl, by rw [ins_s ek]; exact fun j hj => ⟨shf_l (pr := Prod.fst) (fun q hq => (hf q hq).1) i1 rfl j hj, shf_l (pr := Prod.snd) (fun q hq => (hf q hq).2) i1 rfl j hj⟩, by rw [ht]; exact hP9, va_K.moved hW.alike hK, hD9⟩, hS.F ht⟩) hS.2.2 dX6_cut_150
    · have e8 : k < i := by rcases Nat.lt_or_ge k i with q | q; (· exact q); exact absurd ((nI_leI (by omega) (by omega)).mpr q) c8
      obtain ⟨i0, rfl⟩ : ∃ q, i = q + 1 := ⟨i - 1, by omega⟩
      have hl : lv_has ls 8 [(7, .int (nI (i0 + 1))), (5, .int (nI k)), (1, .long (lN fa)), (3, .long (lN fb)), (0, .ref ma)] := hl
      refine lv_aload_n hx hb dX6_cut_86 rfl (lv_at hl 4 rfl) ?_
      refine va_get (D := g) (ci := 6) (v := .ref zo) (C := RX6) (T := TX6) (N := 21) hx hb hts hiX6 hown hK hP 0 rfl rfl 19 (by decide) (hts (.fieldLink RX6 48 "ShapeRelatorModel" "overs" "[J") (List.mem_of_getElem? (i := 2) rfl)) (fun _ h9 => h9) rfl dX6_cut_87 ?_
      refine lv_iload hx hb dX6_cut_90 (lv_at hl 0 rfl) ?_
      refine lv_aload_n hx hb dX6_cut_92 rfl (lv_at hl 4 rfl) ?_
      refine va_get (D := g) (ci := 6) (v := .ref zo) (C := RX6) (T := TX6) (N := 21) hx hb hts hiX6 hown hK hP 0 rfl rfl 19 (by decide) (hts (.fieldLink RX6 48 "ShapeRelatorModel" "overs" "[J") (List.mem_of_getElem? (i := 2) rfl)) (fun _ h9 => h9) rfl dX6_cut_93 ?_
      refine lv_iload hx hb dX6_cut_96 (lv_at hl 0 rfl) ?_
      refine lv_iconst (v := 1) hx hb dX6_cut_98 (by decide) ?_
      refine lv_isub hx hb dX6_cut_99 ?_
      refine tpi_ (y := (nI i0)) (m1s_ i0) ?_
      refine va_lald (D := g) hx hb hK hP 1 1 rfl rfl (vp_in_nI (show i0 < 12400 by omega) (by omega)) dX6_cut_100 ?_
      refine tpl_ (y := (ov i0)) (by rw [nI_clamp (by omega), shf_p]) ?_
      refine va_last (D := g) hx hb hK hP hD hS 1 1 rfl rfl (vp_in_nI (show i0 + 1 < 12400 by omega) (by decide)) dX6_cut_101 (fun H locs hP hD hS => ?_)
      rw [nI_clamp (show i0 + 1 < 2 ^ 31 by omega)] at hP hD
      have hP : va_P g vwCl [(ma, .inr (6, mo_ th zk zp za zb zx zy sn zf zt zw zm zh x0 y0 dx dy zz (nI F.length) zo zu)), (zo, .inl (cJ, 12400, .inr (.inl (vp_updL (shf_ ov (i0 + 1) F.length) (i0 + 1) (ov i0))))), (zu, .inl (cJ, 12400, .inr (.inl (shf_ un (i0 + 1) F.length))))] H := hP
      have hD : va_D A [(ma, .inr (6, mo_ th zk zp za zb zx zy sn zf zt zw zm zh x0 y0 dx dy zz (nI F.length) zo zu)), (zo, .inl (cJ, 12400, .inr (.inl (vp_updL (shf_ ov (i0 + 1) F.length) (i0 + 1) (ov i0))))), (zu, .inl (cJ, 12400, .inr (.inl (shf_ un (i0 + 1) F.length))))] := hD
      rw [shf_s (by omega)] at hP hD
      have hP : va_P g vwCl [(ma, .inr (6, mo_ th zk zp za zb zx zy sn zf zt zw zm zh x0 y0 dx dy zz (nI F.length) zo zu)), (zo, .inl (cJ, 12400, .inr (.inl (shf_ ov i0 F.length)))), (zu, .inl (cJ, 12400, .inr (.inl (shf_ un (i0 + 1) F.length))))] H := hP
      have hD : va_D A [(ma, .inr (6, mo_ th zk zp za zb zx zy sn zf zt zw zm zh x0 y0 dx dy zz (nI F.length) zo zu)), (zo, .inl (cJ, 12400, .inr (.inl (shf_ ov i0 F.length)))), (zu, .inl (cJ, 12400, .inr (.inl (shf_ un (i0 + 1) F.length))))] := hD
      refine lv_aload_n hx hb dX6_cut_102 rfl (lv_at hl 4 rfl) ?_
      refine va_get (D := g) (ci := 6) (v := .ref zu) (C := RX6) (T := TX6) (N := 21) hx hb hts hiX6 hown hK hP 0 rfl rfl 20 (by decide) (hts (.fieldLink RX6 51 "ShapeRelatorModel" "unders" "[J") (List.mem_of_getElem? (i := 3) rfl)) (fun _ h9 => h9) rfl dX6_cut_103 ?_
      refine lv_iload hx hb dX6_cut_106 (lv_at hl 0 rfl) ?_
      refine lv_aload_n hx hb dX6_cut_108 rfl (lv_at hl 4 rfl) ?_
      refine va_get (D := g) (ci := 6) (v := .ref zu) (C := RX6) (T := TX6) (N := 21) hx hb hts hiX6 hown hK hP 0 rfl rfl 20 (by decide) (hts (.fieldLink RX6 51 "ShapeRelatorModel" "unders" "[J") (List.mem_of_getElem? (i := 3) rfl)) (fun _ h9 => h9) rfl dX6_cut_109 ?_
      refine lv_iload hx hb dX6_cut_112 (lv_at hl 0 rfl) ?_
      refine lv_iconst (v := 1) hx hb dX6_cut_114 (by decide) ?_
      refine lv_isub hx hb dX6_cut_115 ?_
      refine tpi_ (y := (nI i0)) (m1s_ i0) ?_
      refine va_lald (D := g) hx hb hK hP 2 1 rfl rfl (vp_in_nI (show i0 < 12400 by omega) (by omega)) dX6_cut_116 ?_
      refine tpl_ (y := (un i0)) (by rw [nI_clamp (by omega), shf_p]) ?_
      refine va_last (D := g) hx hb hK hP hD hS 2 1 rfl rfl (vp_in_nI (show i0 + 1 < 12400 by omega) (by decide)) dX6_cut_117 (fun H locs hP hD hS => ?_)
      rw [nI_clamp (show i0 + 1 < 2 ^ 31 by omega)] at hP hD
      have hP : va_P g vwCl [(ma, .inr (6, mo_ th zk zp za zb zx zy sn zf zt zw zm zh x0 y0 dx dy zz (nI F.length) zo zu)), (zo, .inl (cJ, 12400, .inr (.inl (shf_ ov i0 F.length)))), (zu, .inl (cJ, 12400, .inr (.inl (vp_updL (shf_ un (i0 + 1) F.length) (i0 + 1) (un i0)))))] H := hP
      have hD : va_D A [(ma, .inr (6, mo_ th zk zp za zb zx zy sn zf zt zw zm zh x0 y0 dx dy zz (nI F.length) zo zu)), (zo, .inl (cJ, 12400, .inr (.inl (shf_ ov i0 F.length)))), (zu, .inl (cJ, 12400, .inr (.inl (vp_updL (shf_ un (i0 + 1) F.length) (i0 + 1) (un i0)))))] := hD
      rw [shf_s (by omega)] at hP hD
      have hP : va_P g vwCl [(ma, .inr (6, mo_ th zk zp za zb zx zy sn zf zt zw zm zh x0 y0 dx dy zz (nI F.length) zo zu)), (zo, .inl (cJ, 12400, .inr (.inl (shf_ ov i0 F.length)))), (zu, .inl (cJ, 12400, .inr (.inl (shf_ un i0 F.length))))] H := hP
      have hD : va_D A [(ma, .inr (6, mo_ th zk zp za zb zx zy sn zf zt zw zm zh x0 y0 dx dy zz (nI F.length) zo zu)), (zo, .inl (cJ, 12400, .inr (.inl (shf_ ov i0 F.length)))), (zu, .inl (cJ, 12400, .inr (.inl (shf_ un i0 F.length))))] := hD
      refine lv_iinc (v := (nI i0)) (lv' := [(7, .int (nI i0)), (5, .int (nI k)), (1, .long (lN fa)), (3, .long (lN fb)), (0, .ref ma)]) hx hb dX6_cut_118 hl (k := 0) rfl (pk_m1 i0) (by decide) rfl (fun ls hl => ?_)
      refine lv_goto (tgt := 79) hx hb dX6_cut_121 (by decide) ?_
      exact ih i0 (by show i0 < i0 + 1; omega) H locs ls ⟨⟨by omega, by omega⟩, hP, hD, hS, (lv_sub hl [0, 1, 2, 3, 4] rfl)⟩
  · have e1 : 0 < k := by rcases Nat.eq_zero_or_pos k with q | q; (· rw [q] at c1; exact absurd (by decide) c1); exact q
    refine lv_iload hx hb dX6_cut_14 (lv_at hl 0 rfl) ?_
    refine lv_if_eq (tgt := 73) hx hb dX6_cut_16 (by decide) (fun c2 => ?_) (fun c2 => ?_)
    · have ek : fk_ F (fa, fb) F.length = some k := by rcases i2 with q | q; (· exact absurd (q.1.symm.trans c2) (by decide)); exact q.2.2
      refine lv_aload_n hx hb dX6_cut_73 rfl (lv_at hl 4 rfl) ?_
      refine va_get (D := g) (ci := 6) (v := .int (nI F.length)) (C := RX6) (T := TX6) (N := 21) hx hb hts hiX6 hown hK hP 0 rfl rfl 18 (by decide) (hts (.fieldLink RX6 176 "ShapeRelatorModel" "cuts" "I") (List.mem_of_getElem? (i := 1) rfl)) (fun _ h9 => h9) rfl dX6_cut_74 ?_
      refine lv_istore (lv' := [(7, .int (nI F.length)), (6, .int mo), (5, .int (nI k)), (1, .long (lN fa)), (3, .long (lN fb)), (0, .ref ma)]) hx hb dX6_cut_77 hl (by decide) rfl (fun ls hl => ?_)
      have zo0 : shf_ ov F.length F.length = ov := shf_0
      have zu0 : shf_ un F.length F.length = un := shf_0
      rw [← zo0, ← zu0] at hP hD
      have hP : va_P g vwCl [(ma, .inr (6, mo_ th zk zp za zb zx zy sn zf zt zw zm zh x0 y0 dx dy zz (nI F.length) zo zu)), (zo, .inl (cJ, 12400, .inr (.inl (shf_ ov F.length F.length)))), (zu, .inl (cJ, 12400, .inr (.inl (shf_ un F.length F.length))))] H := hP
      have hD : va_D A [(ma, .inr (6, mo_ th zk zp za zb zx zy sn zf zt zw zm zh x0 y0 dx dy zz (nI F.length) zo zu)), (zo, .inl (cJ, 12400, .inr (.inl (shf_ ov F.length F.length)))), (zu, .inl (cJ, 12400, .inr (.inl (shf_ un F.length F.length))))] := hD
      refine lpW (σ := Nat) (fun i => i) (fun i => 0) (fun i => 0) (fun i H locs ls => (k ≤ i ∧ i ≤ F.length) ∧ va_P g vwCl [(ma, .inr (6, mo_ th zk zp za zb zx zy sn zf zt zw zm zh x0 y0 dx dy zz (nI F.length) zo zu)), (zo, .inl (cJ, 12400, .inr (.inl (shf_ ov i F.length)))), (zu, .inl (cJ, 12400, .inr (.inl (shf_ un i F.length))))] H ∧ va_D A [(ma, .inr (6, mo_ th zk zp za zb zx zy sn zf zt zw zm zh x0 y0 dx dy zz (nI F.length) zo zu)), (zo, .inl (cJ, 12400, .inr (.inl (shf_ ov i F.length)))), (zu, .inl (cJ, 12400, .inr (.inl (shf_ un i F.length))))] ∧ va_S A s.heap H locs ∧ lv_has ls 8 [(7, .int (nI i)), (5, .int (nI k)), (1, .long (lN fa)), (3, .long (lN fb)), (0, .ref ma)]) (fun x ih H locs ls hI => ?_) F.length rfl rfl ⟨⟨i1, Nat.le_refl _⟩, hP, hD, hS, (lv_sub hl [0, 2, 3, 4, 5] rfl)⟩
      obtain ⟨i, rfl⟩ : ∃ z, z = x := ⟨_, rfl⟩
      obtain ⟨hj, hP, hD, hS, hl⟩ := hI
      have hP : va_P g vwCl [(ma, .inr (6, mo_ th zk zp za zb zx zy sn zf zt zw zm zh x0 y0 dx dy zz (nI F.length) zo zu)), (zo, .inl (cJ, 12400, .inr (.inl (shf_ ov i F.length)))), (zu, .inl (cJ, 12400, .inr (.inl (shf_ un i F.length))))] H := hP
      have hD : va_D A [(ma, .inr (6, mo_ th zk zp za zb zx zy sn zf zt zw zm zh x0 y0 dx dy zz (nI F.length) zo zu)), (zo, .inl (cJ, 12400, .inr (.inl (shf_ ov i F.length)))), (zu, .inl (cJ, 12400, .inr (.inl (shf_ un i F.length))))] := hD
      have hl : lv_has ls 8 [(7, .int (nI i)), (5, .int (nI k)), (1, .long (lN fa)), (3, .long (lN fb)), (0, .ref ma)] := hl
      obtain ⟨j1, j2⟩ := hj
      refine lv_iload hx hb dX6_cut_79 (lv_at hl 0 rfl) ?_
      refine lv_iload hx hb dX6_cut_81 (lv_at hl 1 rfl) ?_
      refine lv_icmp_le (tgt := 124) hx hb dX6_cut_83 (by decide) (fun c8 => ?_) (fun c8 => ?_)
      · have e8 : i = k := by have := (nI_leI (by omega) (by omega)).mp c8; omega
        subst e8
        refine lv_aload_n hx hb dX6_cut_124 rfl (lv_at hl 4 rfl) ?_
        refine va_get (D := g) (ci := 6) (v := .ref zo) (C := RX6) (T := TX6) (N := 21) hx hb hts hiX6 hown hK hP 0 rfl rfl 19 (by decide) (hts (.fieldLink RX6 48 "ShapeRelatorModel" "overs" "[J") (List.mem_of_getElem? (i := 2) rfl)) (fun _ h9 => h9) rfl dX6_cut_125 ?_
        refine lv_iload hx hb dX6_cut_128 (lv_at hl 1 rfl) ?_
        refine lv_lload_n hx hb dX6_cut_130 rfl (lv_at hl 2 rfl) ?_
        refine va_last (D := g) hx hb hK hP hD hS 1 1 rfl rfl (vp_in_nI (show i < 12400 by omega) (by decide)) dX6_cut_131 (fun H locs hP hD hS => ?_)
        rw [nI_clamp (show i < 2 ^ 31 by omega)] at hP hD
        have hP : va_P g vwCl [(ma, .inr (6, mo_ th zk zp za zb zx zy sn zf zt zw zm zh x0 y0 dx dy zz (nI F.length) zo zu)), (zo, .inl (cJ, 12400, .inr (.inl (vp_updL (shf_ ov i F.length) i (lN fa))))), (zu, .inl (cJ, 12400, .inr (.inl (shf_ un i F.length))))] H := hP
        have hD : va_D A [(ma, .inr (6, mo_ th zk zp za zb zx zy sn zf zt zw zm zh x0 y0 dx dy zz (nI F.length) zo zu)), (zo, .inl (cJ, 12400, .inr (.inl (vp_updL (shf_ ov i F.length) i (lN fa))))), (zu, .inl (cJ, 12400, .inr (.inl (shf_ un i F.length))))] := hD
        refine lv_aload_n hx hb dX6_cut_132 rfl (lv_at hl 4 rfl) ?_
        refine va_get (D := g) (ci := 6) (v := .ref zu) (C := RX6) (T := TX6) (N := 21) hx hb hts hiX6 hown hK hP 0 rfl rfl 20 (by decide) (hts (.fieldLink RX6 51 "ShapeRelatorModel" "unders" "[J") (List.mem_of_getElem? (i := 3) rfl)) (fun _ h9 => h9) rfl dX6_cut_133 ?_
        refine lv_iload hx hb dX6_cut_136 (lv_at hl 1 rfl) ?_
        refine lv_lload_n hx hb dX6_cut_138 rfl (lv_at hl 3 rfl) ?_
        refine va_last (D := g) hx hb hK hP hD hS 2 1 rfl rfl (vp_in_nI (show i < 12400 by omega) (by decide)) dX6_cut_139 (fun H locs hP hD hS => ?_)
        rw [nI_clamp (show i < 2 ^ 31 by omega)] at hP hD
        have hP : va_P g vwCl [(ma, .inr (6, mo_ th zk zp za zb zx zy sn zf zt zw zm zh x0 y0 dx dy zz (nI F.length) zo zu)), (zo, .inl (cJ, 12400, .inr (.inl (vp_updL (shf_ ov i F.length) i (lN fa))))), (zu, .inl (cJ, 12400, .inr (.inl (vp_updL (shf_ un i F.length) i (lN fb)))))] H := hP
        have hD : va_D A [(ma, .inr (6, mo_ th zk zp za zb zx zy sn zf zt zw zm zh x0 y0 dx dy zz (nI F.length) zo zu)), (zo, .inl (cJ, 12400, .inr (.inl (vp_updL (shf_ ov i F.length) i (lN fa))))), (zu, .inl (cJ, 12400, .inr (.inl (vp_updL (shf_ un i F.length) i (lN fb)))))] := hD
        refine lv_aload_n hx hb dX6_cut_140 rfl (lv_at hl 4 rfl) ?_
        refine lv_dup hx hb dX6_cut_141 rfl ?_
        refine va_get (D := g) (ci := 6) (v := .int (nI F.length)) (C := RX6) (T := TX6) (N := 21) hx hb hts hiX6 hown hK hP 0 rfl rfl 18 (by decide) (hts (.fieldLink RX6 176 "ShapeRelatorModel" "cuts" "I") (List.mem_of_getElem? (i := 1) rfl)) (fun _ h9 => h9) rfl dX6_cut_142 ?_
        refine lv_iconst (v := 1) hx hb dX6_cut_145 (by decide) ?_
        have eL : (ins_ F (fa, fb)).length = F.length + 1 := by rw [ins_s ek, List.length_append, List.length_cons, List.length_take, List.length_drop]; omega
        refine lv_iadd hx hb dX6_cut_146 ?_
        refine tpi_ (y := (nI (ins_ F (fa, fb)).length)) (by rw [eL]; exact (nI_1 _).symm) ?_
        refine va_put (D := g) (ci := 6) (v := .int (nI (ins_ F (fa, fb)).length)) (ty := .int) (C := RX6) (T := TX6) (N := 21) hx hb hts hiX6 tyX6 tyX6_ok nmX6 hown hK hP hD hS 0 rfl rfl 18 (by decide) (hts (.fieldLink RX6 176 "ShapeRelatorModel" "cuts" "I") (List.mem_of_getElem? (i := 1) rfl)) (fun _ h9 => h9) rfl (by decide +kernel) rfl rfl (Nat.le_of_ble_eq_true rfl) dX6_cut_147 (fun H locs hP hD hS => ?_)
        have hP : va_P g vwCl [(ma, .inr (6, mo_ th zk zp za zb zx zy sn zf zt zw zm zh x0 y0 dx dy zz (nI (ins_ F (fa, fb)).length) zo zu)), (zo, .inl (cJ, 12400, .inr (.inl (vp_updL (shf_ ov i F.length) i (lN fa))))), (zu, .inl (cJ, 12400, .inr (.inl (vp_updL (shf_ un i F.length) i (lN fb)))))] H := hP
        have hD : va_D A [(ma, .inr (6, mo_ th zk zp za zb zx zy sn zf zt zw zm zh x0 y0 dx dy zz (nI (ins_ F (fa, fb)).length) zo zu)), (zo, .inl (cJ, 12400, .inr (.inl (vp_updL (shf_ ov i F.length) i (lN fa))))), (zu, .inl (cJ, 12400, .inr (.inl (vp_updL (shf_ un i F.length) i (lN fb)))))] := hD
        have hP9 := hP.sub (ws' := [(ma, .inr (6, mo_ th zk zp za zb zx zy sn zf zt zw zm zh x0 y0 dx dy zz (nI (ins_ F (fa, fb)).length) zo zu)), (zo, .inl (cJ, 12400, .inr (.inl (vp_updL (shf_ ov i F.length) i (lN fa))))), (zu, .inl (cJ, 12400, .inr (.inl (vp_updL (shf_ un i F.length) i (lN fb)))))]) [0, 1, 2] rfl
        have hD9 := hD.sub (ws' := [(ma, .inr (6, mo_ th zk zp za zb zx zy sn zf zt zw zm zh x0 y0 dx dy zz (nI (ins_ F (fa, fb)).length) zo zu)), (zo, .inl (cJ, 12400, .inr (.inl (vp_updL (shf_ ov i F.length) i (lN fa))))), (zu, .inl (cJ, 12400, .inr (.inl (vp_updL (shf_ un i F.length) i (lN fb)))))]) [0, 1, 2] (by decide) rfl
        exact W.vret hx hb hr (fun t ht hW => ⟨⟨(vp_updL (shf_ ov i F.length) i (lN fa), vp_updL (shf_ un i F.length) i (lN fb)), rfl, by rw [ins_s ek]; exact fun j hj => ⟨shf_l (pr := Prod.fst) (fun q hq => (hf q hq).1) i1 rfl j hj, shf_l (pr := Prod.snd) (fun q hq => (hf q hq).2) i1 rfl j hj⟩, by rw [ht]; exact hP9, va_K.moved hW.alike hK, hD9⟩, hS.F ht⟩) hS.2.2 dX6_cut_150
      · have e8 : k < i := by rcases Nat.lt_or_ge k i with q | q; (· exact q); exact absurd ((nI_leI (by omega) (by omega)).mpr q) c8
        obtain ⟨i0, rfl⟩ : ∃ q, i = q + 1 := ⟨i - 1, by omega⟩
        have hl : lv_has ls 8 [(7, .int (nI (i0 + 1))), (5, .int (nI k)), (1, .long (lN fa)), (3, .long (lN fb)), (0, .ref ma)] := hl
        refine lv_aload_n hx hb dX6_cut_86 rfl (lv_at hl 4 rfl) ?_
        refine va_get (D := g) (ci := 6) (v := .ref zo) (C := RX6) (T := TX6) (N := 21) hx hb hts hiX6 hown hK hP 0 rfl rfl 19 (by decide) (hts (.fieldLink RX6 48 "ShapeRelatorModel" "overs" "[J") (List.mem_of_getElem? (i := 2) rfl)) (fun _ h9 => h9) rfl dX6_cut_87 ?_
        refine lv_iload hx hb dX6_cut_90 (lv_at hl 0 rfl) ?_
        refine lv_aload_n hx hb dX6_cut_92 rfl (lv_at hl 4 rfl) ?_
        refine va_get (D := g) (ci := 6) (v := .ref zo) (C := RX6) (T := TX6) (N := 21) hx hb hts hiX6 hown hK hP 0 rfl rfl 19 (by decide) (hts (.fieldLink RX6 48 "ShapeRelatorModel" "overs" "[J") (List.mem_of_getElem? (i := 2) rfl)) (fun _ h9 => h9) rfl dX6_cut_93 ?_
        refine lv_iload hx hb dX6_cut_96 (lv_at hl 0 rfl) ?_
        refine lv_iconst (v := 1) hx hb dX6_cut_98 (by decide) ?_
        refine lv_isub hx hb dX6_cut_99 ?_
        refine tpi_ (y := (nI i0)) (m1s_ i0) ?_
        refine va_lald (D := g) hx hb hK hP 1 1 rfl rfl (vp_in_nI (show i0 < 12400 by omega) (by omega)) dX6_cut_100 ?_
        refine tpl_ (y := (ov i0)) (by rw [nI_clamp (by omega), shf_p]) ?_
        refine va_last (D := g) hx hb hK hP hD hS 1 1 rfl rfl (vp_in_nI (show i0 + 1 < 12400 by omega) (by decide)) dX6_cut_101 (fun H locs hP hD hS => ?_)
        rw [nI_clamp (show i0 + 1 < 2 ^ 31 by omega)] at hP hD
        have hP : va_P g vwCl [(ma, .inr (6, mo_ th zk zp za zb zx zy sn zf zt zw zm zh x0 y0 dx dy zz (nI F.length) zo zu)), (zo, .inl (cJ, 12400, .inr (.inl (vp_updL (shf_ ov (i0 + 1) F.length) (i0 + 1) (ov i0))))), (zu, .inl (cJ, 12400, .inr (.inl (shf_ un (i0 + 1) F.length))))] H := hP
        have hD : va_D A [(ma, .inr (6, mo_ th zk zp za zb zx zy sn zf zt zw zm zh x0 y0 dx dy zz (nI F.length) zo zu)), (zo, .inl (cJ, 12400, .inr (.inl (vp_updL (shf_ ov (i0 + 1) F.length) (i0 + 1) (ov i0))))), (zu, .inl (cJ, 12400, .inr (.inl (shf_ un (i0 + 1) F.length))))] := hD
        rw [shf_s (by omega)] at hP hD
        have hP : va_P g vwCl [(ma, .inr (6, mo_ th zk zp za zb zx zy sn zf zt zw zm zh x0 y0 dx dy zz (nI F.length) zo zu)), (zo, .inl (cJ, 12400, .inr (.inl (shf_ ov i0 F.length)))), (zu, .inl (cJ, 12400, .inr (.inl (shf_ un (i0 + 1) F.length))))] H := hP
        have hD : va_D A [(ma, .inr (6, mo_ th zk zp za zb zx zy sn zf zt zw zm zh x0 y0 dx dy zz (nI F.length) zo zu)), (zo, .inl (cJ, 12400, .inr (.inl (shf_ ov i0 F.length)))), (zu, .inl (cJ, 12400, .inr (.inl (shf_ un (i0 + 1) F.length))))] := hD
        refine lv_aload_n hx hb dX6_cut_102 rfl (lv_at hl 4 rfl) ?_
        refine va_get (D := g) (ci := 6) (v := .ref zu) (C := RX6) (T := TX6) (N := 21) hx hb hts hiX6 hown hK hP 0 rfl rfl 20 (by decide) (hts (.fieldLink RX6 51 "ShapeRelatorModel" "unders" "[J") (List.mem_of_getElem? (i := 3) rfl)) (fun _ h9 => h9) rfl dX6_cut_103 ?_
        refine lv_iload hx hb dX6_cut_106 (lv_at hl 0 rfl) ?_
        refine lv_aload_n hx hb dX6_cut_108 rfl (lv_at hl 4 rfl) ?_
        refine va_get (D := g) (ci := 6) (v := .ref zu) (C := RX6) (T := TX6) (N := 21) hx hb hts hiX6 hown hK hP 0 rfl rfl 20 (by decide) (hts (.fieldLink RX6 51 "ShapeRelatorModel" "unders" "[J") (List.mem_of_getElem? (i := 3) rfl)) (fun _ h9 => h9) rfl dX6_cut_109 ?_
        refine lv_iload hx hb dX6_cut_112 (lv_at hl 0 rfl) ?_
        refine lv_iconst (v := 1) hx hb dX6_cut_114 (by decide) ?_
        refine lv_isub hx hb dX6_cut_115 ?_
        refine tpi_ (y := (nI i0)) (m1s_ i0) ?_
        refine va_lald (D := g) hx hb hK hP 2 1 rfl rfl (vp_in_nI (show i0 < 12400 by omega) (by omega)) dX6_cut_116 ?_
        refine tpl_ (y := (un i0)) (by rw [nI_clamp (by omega), shf_p]) ?_
        refine va_last (D := g) hx hb hK hP hD hS 2 1 rfl rfl (vp_in_nI (show i0 + 1 < 12400 by omega) (by decide)) dX6_cut_117 (fun H locs hP hD hS => ?_)
        rw [nI_clamp (show i0 + 1 < 2 ^ 31 by omega)] at hP hD
        have hP : va_P g vwCl [(ma, .inr (6, mo_ th zk zp za zb zx zy sn zf zt zw zm zh x0 y0 dx dy zz (nI F.length) zo zu)), (zo, .inl (cJ, 12400, .inr (.inl (shf_ ov i0 F.length)))), (zu, .inl (cJ, 12400, .inr (.inl (vp_updL (shf_ un (i0 + 1) F.length) (i0 + 1) (un i0)))))] H := hP
        have hD : va_D A [(ma, .inr (6, mo_ th zk zp za zb zx zy sn zf zt zw zm zh x0 y0 dx dy zz (nI F.length) zo zu)), (zo, .inl (cJ, 12400, .inr (.inl (shf_ ov i0 F.length)))), (zu, .inl (cJ, 12400, .inr (.inl (vp_updL (shf_ un (i0 + 1) F.length) (i0 + 1) (un i0)))))] := hD
        rw [shf_s (by omega)] at hP hD
        have hP : va_P g vwCl [(ma, .inr (6, mo_ th zk zp za zb zx zy sn zf zt zw zm zh x0 y0 dx dy zz (nI F.length) zo zu)), (zo, .inl (cJ, 12400, .inr (.inl (shf_ ov i0 F.length)))), (zu, .inl (cJ, 12400, .inr (.inl (shf_ un i0 F.length))))] H := hP
        have hD : va_D A [(ma, .inr (6, mo_ th zk zp za zb zx zy sn zf zt zw zm zh x0 y0 dx dy zz (nI F.length) zo zu)), (zo, .inl (cJ, 12400, .inr (.inl (shf_ ov i0 F.length)))), (zu, .inl (cJ, 12400, .inr (.inl (shf_ un i0 F.length))))] := hD
        refine lv_iinc (v := (nI i0)) (lv' := [(7, .int (nI i0)), (5, .int (nI k)), (1, .long (lN fa)), (3, .long (lN fb)), (0, .ref ma)]) hx hb dX6_cut_118 hl (k := 0) rfl (pk_m1 i0) (by decide) rfl (fun ls hl => ?_)
        refine lv_goto (tgt := 79) hx hb dX6_cut_121 (by decide) ?_
        exact ih i0 (by show i0 < i0 + 1; omega) H locs ls ⟨⟨by omega, by omega⟩, hP, hD, hS, (lv_sub hl [0, 1, 2, 3, 4] rfl)⟩
    · rcases i2 with i2 | i2
      case inr => exact absurd i2.1 c2
      obtain ⟨-, i3, i4⟩ := i2
      obtain ⟨k0, rfl⟩ : ∃ q, k = q + 1 := ⟨k - 1, by omega⟩
      have hl : lv_has ls 8 [(6, .int mo), (5, .int (nI (k0 + 1))), (1, .long (lN fa)), (3, .long (lN fb)), (0, .ref ma)] := hl
      obtain ⟨yy, ey⟩ : ∃ q, q = F.getD k0 (0, 1) := ⟨_, rfl⟩
      have h9 := hf k0 (by omega)
      have h8 := hk1 _ (f2_m (show k0 < F.length by omega))
      rw [← ey] at h9 h8
      have e4 : fk_ F (fa, fb) (k0 + 1) = if fcm_ (fa, fb) yy = 0 then none else if fcm_ (fa, fb) yy < 0 then fk_ F (fa, fb) k0 else some (k0 + 1) := by rw [fk_, ← ey]
      rw [e4] at i4
      refine lv_lload_n hx hb dX6_cut_19 rfl (lv_at hl 2 rfl) ?_
      refine lv_lload_n hx hb dX6_cut_20 rfl (lv_at hl 3 rfl) ?_
      refine lv_aload_n hx hb dX6_cut_21 rfl (lv_at hl 4 rfl) ?_
      refine va_get (D := g) (ci := 6) (v := .ref zo) (C := RX6) (T := TX6) (N := 21) hx hb hts hiX6 hown hK hP 0 rfl rfl 19 (by decide) (hts (.fieldLink RX6 48 "ShapeRelatorModel" "overs" "[J") (List.mem_of_getElem? (i := 2) rfl)) (fun _ h9 => h9) rfl dX6_cut_22 ?_
      refine lv_iload hx hb dX6_cut_25 (lv_at hl 1 rfl) ?_
      refine lv_iconst (v := 1) hx hb dX6_cut_27 (by decide) ?_
      refine lv_isub hx hb dX6_cut_28 ?_
      refine tpi_ (y := (nI k0)) (m1s_ k0) ?_
      refine va_lald (D := g) hx hb hK hP 1 1 rfl rfl (vp_in_nI (show k0 < 12400 by omega) (by omega)) dX6_cut_29 ?_
      refine tpl_ (y := (lN yy.1)) (by rw [nI_clamp (by omega), h9.1]) ?_
      refine lv_aload_n hx hb dX6_cut_30 rfl (lv_at hl 4 rfl) ?_
      refine va_get (D := g) (ci := 6) (v := .ref zu) (C := RX6) (T := TX6) (N := 21) hx hb hts hiX6 hown hK hP 0 rfl rfl 20 (by decide) (hts (.fieldLink RX6 51 "ShapeRelatorModel" "unders" "[J") (List.mem_of_getElem? (i := 3) rfl)) (fun _ h9 => h9) rfl dX6_cut_31 ?_
      refine lv_iload hx hb dX6_cut_34 (lv_at hl 1 rfl) ?_
      refine lv_iconst (v := 1) hx hb dX6_cut_36 (by decide) ?_
      refine lv_isub hx hb dX6_cut_37 ?_
      refine tpi_ (y := (nI k0)) (m1s_ k0) ?_
      refine va_lald (D := g) hx hb hK hP 2 1 rfl rfl (vp_in_nI (show k0 < 12400 by omega) (by omega)) dX6_cut_38 ?_
      refine tpl_ (y := (lN yy.2)) (by rw [nI_clamp (by omega), h9.2]) ?_
      have hPc := hP.sub (ws' := []) [] rfl
      have hDc := hD.sub (ws' := []) [] (by decide) rfl
      have hFc := va_free (wc := []) hD hS hA [] rfl
      refine va_calli (va_runS (As := [.long (lN fa), .long (lN fb), .long (lN yy.1), .long (lN yy.2)]) (rest := []) ⟨hx, hb, hml, hown, hts⟩ (kX6_compare l g cI cJ cZ H.size fa fb yy.1 yy.2 b1 b2 h8.1 h8.2) (va_cwS 4 hts gX6_cut_X6_compare rfl rfl rfl (by decide +kernel) ⟨Nat.le_of_ble_eq_true rfl, Nat.le_of_ble_eq_true rfl⟩) (ps_ hK hPc hDc) rfl rfl hl.1 rfl (lv_room (Nat.le_of_ble_eq_true rfl)) dX6_cut_39 ⟨Nat.zero_le _, Nat.zero_le _⟩) hS (fun q _ h => hFc q h) hFc (fun r1 u t H1 locs ht hvm hw1 hB hz1 hk1 hS => ?_)
      obtain ⟨hP1, hK1, hD1⟩ := hB
      rw [ht] at hP1
      obtain ⟨hP, hD⟩ := va_join (wr := [(ma, .inr (6, mo_ th zk zp za zb zx zy sn zf zt zw zm zh x0 y0 dx dy zz (nI F.length) zo zu)), (zo, .inl (cJ, 12400, .inr (.inl ov))), (zu, .inl (cJ, 12400, .inr (.inl un)))]) (w1 := []) hP hD [] [0, 1, 2] rfl rfl (by decide) (by decide) hk1 hFc hP1 hD1
      clear hPc hDc hFc hP1 hD1 hK1 hk1 hz1 hvm ht
      generalize H1 = H at hP hS ⊢
      have hP : va_P g vwCl [(ma, .inr (6, mo_ th zk zp za zb zx zy sn zf zt zw zm zh x0 y0 dx dy zz (nI F.length) zo zu)), (zo, .inl (cJ, 12400, .inr (.inl ov))), (zu, .inl (cJ, 12400, .inr (.inl un)))] H := hP
      have hD : va_D A [(ma, .inr (6, mo_ th zk zp za zb zx zy sn zf zt zw zm zh x0 y0 dx dy zz (nI F.length) zo zu)), (zo, .inl (cJ, 12400, .inr (.inl ov))), (zu, .inl (cJ, 12400, .inr (.inl un)))] := hD
      have hw2 : r1 = fcm_ (fa, fb) yy := hw1
      refine lv_istore (lv' := [(7, .int r1), (6, .int mo), (5, .int (nI (k0 + 1))), (1, .long (lN fa)), (3, .long (lN fb)), (0, .ref ma)]) hx hb dX6_cut_42 hl (by decide) rfl (fun ls hl => ?_)
      refine lv_iload hx hb dX6_cut_44 (lv_at hl 0 rfl) ?_
      refine lv_if_ne (tgt := 50) hx hb dX6_cut_46 (by decide) (fun c3 => ?_) (fun c3 => ?_)
      · rw [if_neg (by rw [← hw2]; exact c3)] at i4
        refine lv_iload hx hb dX6_cut_50 (lv_at hl 0 rfl) ?_
        refine lv_if_ge (tgt := 59) hx hb dX6_cut_52 (by decide) (fun c4 => ?_) (fun c4 => ?_)
        · rw [if_neg (by rw [← hw2]; exact Int32.not_lt.mpr c4)] at i4
          refine lv_iconst (v := 0) hx hb dX6_cut_59 (by decide) ?_
          refine lv_istore (lv' := [(6, .int 0), (7, .int r1), (5, .int (nI (k0 + 1))), (1, .long (lN fa)), (3, .long (lN fb)), (0, .ref ma)]) hx hb dX6_cut_60 hl (by decide) rfl (fun ls hl => ?_)
          refine lv_iload hx hb dX6_cut_62 (lv_at hl 0 rfl) ?_
          refine lv_if_eq (tgt := 70) hx hb dX6_cut_64 (by decide) (fun c5 => ?_) (fun c5 => ?_)
          · refine lv_goto (tgt := 9) hx hb dX6_cut_70 (by decide) ?_
            exact ih (k0 + 1, 0, 2 * (k0 + 1)) (by show (2 * (k0 + 1)) < tt; omega) H locs ls ⟨⟨i1, Or.inr ⟨rfl, rfl, i4⟩⟩, hP, hD, hS, (lv_sub hl [0, 2, 3, 4, 5] rfl)⟩
          · exact absurd rfl c5
        · rw [if_pos (by rw [← hw2]; exact Int32.not_le.mp c4)] at i4
          refine lv_iconst (v := 1) hx hb dX6_cut_55 (by decide) ?_
          refine lv_goto (tgt := 60) hx hb dX6_cut_56 (by decide) ?_
          refine lv_istore (lv' := [(6, .int 1), (7, .int r1), (5, .int (nI (k0 + 1))), (1, .long (lN fa)), (3, .long (lN fb)), (0, .ref ma)]) hx hb dX6_cut_60 hl (by decide) rfl (fun ls hl => ?_)
          refine lv_iload hx hb dX6_cut_62 (lv_at hl 0 rfl) ?_
          refine lv_if_eq (tgt := 70) hx hb dX6_cut_64 (by decide) (fun c5 => ?_) (fun c5 => ?_)
          · exact absurd c5 (by decide)
          · refine lv_iinc (v := (nI k0)) (lv' := [(5, .int (nI k0)), (6, .int 1), (7, .int r1), (1, .long (lN fa)), (3, .long (lN fb)), (0, .ref ma)]) hx hb dX6_cut_67 hl (k := 2) rfl (pk_m1 k0) (by decide) rfl (fun ls hl => ?_)
            refine lv_goto (tgt := 9) hx hb dX6_cut_70 (by decide) ?_
            exact ih (k0, 1, 2 * k0 + 1) (by show (2 * k0 + 1) < tt; omega) H locs ls ⟨⟨by omega, Or.inl ⟨rfl, rfl, i4⟩⟩, hP, hD, hS, (lv_sub hl [1, 0, 3, 4, 5] rfl)⟩
      · rw [if_pos (by rw [← hw2]; exact c3)] at i4
        have en : ins_ F (fa, fb) = F := ins_n i4
        rw [← en] at hP hD
        have hP : va_P g vwCl [(ma, .inr (6, mo_ th zk zp za zb zx zy sn zf zt zw zm zh x0 y0 dx dy zz (nI (ins_ F (fa, fb)).length) zo zu)), (zo, .inl (cJ, 12400, .inr (.inl ov))), (zu, .inl (cJ, 12400, .inr (.inl un)))] H := hP
        have hD : va_D A [(ma, .inr (6, mo_ th zk zp za zb zx zy sn zf zt zw zm zh x0 y0 dx dy zz (nI (ins_ F (fa, fb)).length) zo zu)), (zo, .inl (cJ, 12400, .inr (.inl ov))), (zu, .inl (cJ, 12400, .inr (.inl un)))] := hD
        have hP9 := hP.sub (ws' := [(ma, .inr (6, mo_ th zk zp za zb zx zy sn zf zt zw zm zh x0 y0 dx dy zz (nI (ins_ F (fa, fb)).length) zo zu)), (zo, .inl (cJ, 12400, .inr (.inl ov))), (zu, .inl (cJ, 12400, .inr (.inl un)))]) [0, 1, 2] rfl
        have hD9 := hD.sub (ws' := [(ma, .inr (6, mo_ th zk zp za zb zx zy sn zf zt zw zm zh x0 y0 dx dy zz (nI (ins_ F (fa, fb)).length) zo zu)), (zo, .inl (cJ, 12400, .inr (.inl ov))), (zu, .inl (cJ, 12400, .inr (.inl un)))]) [0, 1, 2] (by decide) rfl
        exact W.vret hx hb hr (fun t ht hW => ⟨⟨(ov, un), rfl, by rw [en]; exact hf, by rw [ht]; exact hP9, va_K.moved hW.alike hK, hD9⟩, hS.F ht⟩) hS.2.2 dX6_cut_49
end
