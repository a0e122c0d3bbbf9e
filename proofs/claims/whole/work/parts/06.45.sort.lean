section
theorem ikX2_merge_X2 : ∀ w ∈ wsX20, w ∈ wsX2_merge := by decide +kernel
set_option maxHeartbeats 1000000 in
set_option maxRecDepth 100000 in
theorem kX2_merge (l : Launch) (g : va_G) (cI cJ cZ : ClassId) (sz : Nat) (ca : Nat) (cs : Int32) (qo : Nat) (qu : Nat) (qg : Nat) (qr : Nat) (qp : Nat) (cap : Nat) (ov : Nat → Int64) (un : Nat → Int64) (od : Nat → Int32) (sp : Nat → Int32) (oj : Nat → Nat) (a : Nat) (b : Nat) (z : Nat) (h1 : cap < 1000000) (h2 : a ≤ b) (h3 : b ≤ z) (h4 : z ≤ cap) (h5 : ∀ i, a ≤ i → i < z → od i = nI (oj i) ∧ oj i < cap) : Met l yX2_merge wsX2_merge ({ frames := 2, cells := 0, slots := 0, locals := 61 }) (pc_ g cI cJ cZ [.ref ca, .int (nI a), .int (nI b), .int (nI z)] [(ca, .inr (2, cu_ cs qo qu qg qr qp)), (qo, .inl (cJ, cap, .inr (.inl ov))), (qu, .inl (cJ, cap, .inr (.inl un))), (qr, .inl (cI, cap, .inl od)), (qp, .inl (cI, cap, .inl sp))] sz) (va_Qv (fun (u : (Nat → Int32) × (Nat → Nat)) => match u with | (sp2, oj2) => (∀ i, a ≤ i → i < z → sp2 i = nI (oj2 i)) ∧ (∀ i, ¬ (a ≤ i ∧ i < z) → sp2 i = sp i) ∧ seg_ oj2 a z = (seg_ oj a b).merge (seg_ oj b z) (cle_ ov un)) (fun (u : (Nat → Int32) × (Nat → Nat)) t => match u with | (sp2, oj2) => wd_ g cI cJ cZ (va_A [(ca, .inr (2, cu_ cs qo qu qg qr qp)), (qo, .inl (cJ, cap, .inr (.inl ov))), (qu, .inl (cJ, cap, .inr (.inl un))), (qr, .inl (cI, cap, .inl od)), (qp, .inl (cI, cap, .inl sp))] sz) [(ca, .inr (2, cu_ cs qo qu qg qr qp)), (qo, .inl (cJ, cap, .inr (.inl ov))), (qu, .inl (cJ, cap, .inr (.inl un))), (qr, .inl (cI, cap, .inl od)), (qp, .inl (cI, cap, .inl sp2))] t) (va_A [(ca, .inr (2, cu_ cs qo qu qg qr qp)), (qo, .inl (cJ, cap, .inr (.inl ov))), (qu, .inl (cJ, cap, .inr (.inl un))), (qr, .inl (cI, cap, .inl od)), (qp, .inl (cI, cap, .inl sp))] sz)) (0) (0) (va_A [(ca, .inr (2, cu_ cs qo qu qg qr qp)), (qo, .inl (cJ, cap, .inr (.inl ov))), (qu, .inl (cJ, cap, .inr (.inl un))), (qr, .inl (cI, cap, .inl od)), (qp, .inl (cI, cap, .inl sp))] sz) := by
  refine Met.ofW (cc := cX2_merge) (maxL := 8) (ret := none) (by decide) rfl ?_
  intro p e s m args below meth c s₁ B hml hv
  obtain ⟨rfl, hsz, hP, hK, hD0⟩ := hv
  have hx := B.exec
  have hb := B.bytes
  have hr := B.returns
  have hts := atoms_spec (ws := wsX2_merge) B.pre
  have hown : s.vm.findClass RX2 = some m.cls := findClass_of_methodNamed B.named
  have hlocks := B.notSynchronized
  subst hsz
  have hD := hD0.self (sz := s.heap.size)
  generalize hAe : va_A [(ca, .inr (2, cu_ cs qo qu qg qr qp)), (qo, .inl (cJ, cap, .inr (.inl ov))), (qu, .inl (cJ, cap, .inr (.inl un))), (qr, .inl (cI, cap, .inl od)), (qp, .inl (cI, cap, .inl sp))] s.heap.size = A at hD ⊢
  have hA : ∀ q : Nat, s.heap.size ≤ q → A q := fun q h => by rw [← hAe]; exact Or.inr h
  have hS : va_S A s.heap s.heap [] := va_S.rf
  have hP : va_P g vwCl [(ca, .inr (2, cu_ cs qo qu qg qr qp)), (qo, .inl (cJ, cap, .inr (.inl ov))), (qu, .inl (cJ, cap, .inr (.inl un))), (qr, .inl (cI, cap, .inl od)), (qp, .inl (cI, cap, .inl sp))] s.heap := hP
  have hl := lv_entry ([.ref ca, .int (nI a), .int (nI b), .int (nI z)]) (n := 8) (Nat.le_of_ble_eq_true rfl)
  rw [lg_entry_eq]
  generalize (lg_sl ([.ref ca, .int (nI a), .int (nI b), .int (nI z)]) ++ List.replicate (8 - (lg_sl ([.ref ca, .int (nI a), .int (nI b), .int (nI z)])).length) Slot.unset).toArray = ls at hl ⊢
  have hl : lv_has ls 8 [(0, .ref ca), (1, .int (nI a)), (2, .int (nI b)), (3, .int (nI z))] := hl
  have hH0 : s.heap = s.heap := rfl
  have hiX2 := ikX2_merge_X2
  refine lv_iload_n hx hb dX2_merge_0 rfl (lv_at hl 1 rfl) ?_
  refine lv_istore (lv' := [(4, .int (nI a)), (0, .ref ca), (1, .int (nI a)), (2, .int (nI b)), (3, .int (nI z))]) hx hb dX2_merge_1 hl (by decide) rfl (fun ls hl => ?_)
  refine lv_iload_n hx hb dX2_merge_3 rfl (lv_at hl 3 rfl) ?_
  refine lv_istore (lv' := [(5, .int (nI b)), (4, .int (nI a)), (0, .ref ca), (1, .int (nI a)), (2, .int (nI b)), (3, .int (nI z))]) hx hb dX2_merge_4 hl (by decide) rfl (fun ls hl => ?_)
  refine lv_iload_n hx hb dX2_merge_6 rfl (lv_at hl 3 rfl) ?_
  refine lv_istore (lv' := [(6, .int (nI a)), (5, .int (nI b)), (4, .int (nI a)), (0, .ref ca), (1, .int (nI a)), (2, .int (nI b)), (3, .int (nI z))]) hx hb dX2_merge_7 hl (by decide) rfl (fun ls hl => ?_)
  have ht : nI (a + b - b) = nI a := by rw [Nat.add_sub_cancel]
  have hl : lv_has ls 8 [(6, .int (nI (a + b - b))), (5, .int (nI b)), (4, .int (nI a)), (0, .ref ca), (1, .int (nI a)), (2, .int (nI b)), (3, .int (nI z))] := by rw [ht]; exact lv_sub hl [0, 1, 2, 3, 4, 5, 6] rfl
  refine lpW (σ := Nat × Nat × (Nat → Int32) × (Nat → Nat)) (fun (lf, rt, s1, o1) => z + b - (lf + rt)) (fun (lf, rt, s1, o1) => 0) (fun (lf, rt, s1, o1) => 0) (fun (lf, rt, s1, o1) H locs ls => ((a ≤ lf ∧ lf ≤ b ∧ b ≤ rt ∧ rt ≤ z) ∧ (∀ i, a ≤ i → i < lf + rt - b → s1 i = nI (o1 i)) ∧ (∀ i, ¬ (a ≤ i ∧ i < z) → s1 i = sp i) ∧ seg_ o1 a (lf + rt - b) ++ (seg_ oj lf b).merge (seg_ oj rt z) (cle_ ov un) = (seg_ oj a b).merge (seg_ oj b z) (cle_ ov un)) ∧ va_P g vwCl [(ca, .inr (2, cu_ cs qo qu qg qr qp)), (qo, .inl (cJ, cap, .inr (.inl ov))), (qu, .inl (cJ, cap, .inr (.inl un))), (qr, .inl (cI, cap, .inl od)), (qp, .inl (cI, cap, .inl s1))] H ∧ va_D A [(ca, .inr (2, cu_ cs qo qu qg qr qp)), (qo, .inl (cJ, cap, .inr (.inl ov))), (qu, .inl (cJ, cap, .inr (.inl un))), (qr, .inl (cI, cap, .inl od)), (qp, .inl (cI, cap, .inl s1))] ∧ va_S A s.heap H locs ∧ lv_has ls 8 [(6, .int (nI (lf + rt - b))), (5, .int (nI rt)), (4, .int (nI lf)), (0, .ref ca), (1, .int (nI a)), (2, .int (nI b)), (3, .int (nI z))]) (fun x ih H locs ls hI => ?_) (a, b, sp, oj) rfl rfl ⟨⟨⟨Nat.le_refl _, h2, Nat.le_refl _, h3⟩, fun i q1 q2 => absurd q2 (by omega), fun _ _ => rfl, by rw [seg_0 (by omega)]; rfl⟩, hP, hD, hS, (lv_sub hl [0, 1, 2, 3, 4, 5, 6] rfl)⟩
  obtain ⟨lf, rt, s1, o1⟩ := x
  obtain ⟨hi, hP, hD, hS, hl⟩ := hI
  have hP : va_P g vwCl [(ca, .inr (2, cu_ cs qo qu qg qr qp)), (qo, .inl (cJ, cap, .inr (.inl ov))), (qu, .inl (cJ, cap, .inr (.inl un))), (qr, .inl (cI, cap, .inl od)), (qp, .inl (cI, cap, .inl s1))] H := hP
  have hD : va_D A [(ca, .inr (2, cu_ cs qo qu qg qr qp)), (qo, .inl (cJ, cap, .inr (.inl ov))), (qu, .inl (cJ, cap, .inr (.inl un))), (qr, .inl (cI, cap, .inl od)), (qp, .inl (cI, cap, .inl s1))] := hD
  have hl : lv_has ls 8 [(6, .int (nI (lf + rt - b))), (5, .int (nI rt)), (4, .int (nI lf)), (0, .ref ca), (1, .int (nI a)), (2, .int (nI b)), (3, .int (nI z))] := hl
  show W p l e _ s m _ below meth c H locs (0) (0) _ (F0 m 9 ls [])
  obtain ⟨⟨i1, i2, i3, i4⟩, i5, i6, i7⟩ := hi
  refine lv_iload hx hb dX2_merge_9 (lv_at hl 0 rfl) ?_
  refine lv_iload_n hx hb dX2_merge_11 rfl (lv_at hl 6 rfl) ?_
  refine lv_icmp_ge (tgt := 103) hx hb dX2_merge_12 (by decide) (fun c1 => ?_) (fun c1 => ?_)
  · have e1 : z ≤ lf + rt - b := i_ge c1 (by omega) (by omega)
    have e2 : lf = b := by omega
    have e3 : rt = z := by omega
    have hP9 := hP.sub (ws' := [(ca, .inr (2, cu_ cs qo qu qg qr qp)), (qo, .inl (cJ, cap, .inr (.inl ov))), (qu, .inl (cJ, cap, .inr (.inl un))), (qr, .inl (cI, cap, .inl od)), (qp, .inl (cI, cap, .inl s1))]) [0, 1, 2, 3, 4] rfl
    have hD9 := hD.sub (ws' := [(ca, .inr (2, cu_ cs qo qu qg qr qp)), (qo, .inl (cJ, cap, .inr (.inl ov))), (qu, .inl (cJ, cap, .inr (.inl un))), (qr, .inl (cI, cap, .inl od)), (qp, .inl (cI, cap, .inl s1))]) [0, 1, 2, 3, 4] (by decide) rfl
    exact W.vret hx hb hr (fun t ht hW => ⟨⟨(s1, o1), rfl, ⟨fun i q1 q2 => i5 i q1 (by omega), i6, by rw [← i7, e2, e3, seg_0 (Nat.le_refl _), seg_0 (Nat.le_refl _), List.merge_right, List.append_nil, Nat.add_sub_cancel_left]⟩, by rw [ht]; exact hP9, va_K.moved hW.alike hK, hD9⟩, hS.F ht⟩) hS.2.2 dX2_merge_103
  · have e1 : lf + rt - b < z := i_nge c1 (by omega) (by omega)
    refine lv_iload hx hb dX2_merge_15 (lv_at hl 1 rfl) ?_
    refine lv_iload_n hx hb dX2_merge_17 rfl (lv_at hl 6 rfl) ?_
    refine lv_icmp_ge (tgt := 48) hx hb dX2_merge_18 (by decide) (fun c2 => ?_) (fun c2 => ?_)
    · have q1 : z ≤ rt := i_ge c2 (by omega) (by omega)
      refine lv_iconst (v := 1) hx hb dX2_merge_48 (by decide) ?_
      refine lv_goto (tgt := 53) hx hb dX2_merge_49 (by decide) ?_
      refine lv_istore (lv' := [(7, .int 1), (6, .int (nI (lf + rt - b))), (5, .int (nI rt)), (4, .int (nI lf)), (0, .ref ca), (1, .int (nI a)), (2, .int (nI b)), (3, .int (nI z))]) hx hb dX2_merge_53 hl (by decide) rfl (fun ls hl => ?_)
      refine lv_iload hx hb dX2_merge_55 (lv_at hl 0 rfl) ?_
      refine lv_if_eq (tgt := 80) hx hb dX2_merge_57 (by decide) (fun c9 => ?_) (fun c9 => ?_)
      · exact absurd c9 (by decide)
      · have q9 : lf < b := by omega
        refine lv_aload_n hx hb dX2_merge_60 rfl (lv_at hl 4 rfl) ?_
        refine va_get (D := g) (ci := 2) (v := .ref qp) (C := RX2) (T := TX2) (N := 6) hx hb hts hiX2 hown hK hP 0 rfl rfl 5 (by decide) (hts (.fieldLink RX2 29 "ShapeRelator$Cuts" "spare" "[I") (List.mem_of_getElem? (i := 2) rfl)) (fun _ h9 => h9) rfl dX2_merge_61 ?_
        refine lv_iload hx hb dX2_merge_64 (lv_at hl 1 rfl) ?_
        refine lv_aload_n hx hb dX2_merge_66 rfl (lv_at hl 4 rfl) ?_
        refine va_get (D := g) (ci := 2) (v := .ref qr) (C := RX2) (T := TX2) (N := 6) hx hb hts hiX2 hown hK hP 0 rfl rfl 4 (by decide) (hts (.fieldLink RX2 26 "ShapeRelator$Cuts" "order" "[I") (List.mem_of_getElem? (i := 1) rfl)) (fun _ h9 => h9) rfl dX2_merge_67 ?_
        refine lv_iload hx hb dX2_merge_70 (lv_at hl 3 rfl) ?_
        refine va_iald (D := g) hx hb hK hP 3 0 rfl rfl (vp_in_nI (show lf < cap by omega) (by omega)) dX2_merge_72 ?_
        refine tpi_ (y := (nI (oj lf))) (by rw [nI_clamp (by omega), (h5 lf i1 (by omega)).1]) ?_
        refine va_iast (D := g) hx hb hK hP hD hS 4 0 rfl rfl (vp_in_nI (show lf + rt - b < cap by omega) (by omega)) dX2_merge_73 (fun H locs hP hD hS => ?_)
        rw [nI_clamp (show lf + rt - b < 2 ^ 31 by omega)] at hP hD
        have hP : va_P g vwCl [(ca, .inr (2, cu_ cs qo qu qg qr qp)), (qo, .inl (cJ, cap, .inr (.inl ov))), (qu, .inl (cJ, cap, .inr (.inl un))), (qr, .inl (cI, cap, .inl od)), (qp, .inl (cI, cap, .inl (upd s1 (lf + rt - b) (nI (oj lf)))))] H := hP
        have hD : va_D A [(ca, .inr (2, cu_ cs qo qu qg qr qp)), (qo, .inl (cJ, cap, .inr (.inl ov))), (qu, .inl (cJ, cap, .inr (.inl un))), (qr, .inl (cI, cap, .inl od)), (qp, .inl (cI, cap, .inl (upd s1 (lf + rt - b) (nI (oj lf)))))] := hD
        refine lv_iinc (v := (nI (lf + 1))) (lv' := [(4, .int (nI (lf + 1))), (7, .int 1), (6, .int (nI (lf + rt - b))), (5, .int (nI rt)), (0, .ref ca), (1, .int (nI a)), (2, .int (nI b)), (3, .int (nI z))]) hx hb dX2_merge_74 hl (k := 3) rfl (nI_1 lf) (by decide) rfl (fun ls hl => ?_)
        refine lv_goto (tgt := 97) hx hb dX2_merge_77 (by decide) ?_
        refine lv_iinc (v := (nI (lf + 1 + rt - b))) (lv' := [(6, .int (nI (lf + 1 + rt - b))), (4, .int (nI (lf + 1))), (7, .int 1), (5, .int (nI rt)), (0, .ref ca), (1, .int (nI a)), (2, .int (nI b)), (3, .int (nI z))]) hx hb dX2_merge_97 hl (k := 2) rfl (by rw [show lf + 1 + rt - b = lf + rt - b + 1 by omega]; exact nI_1 _) (by decide) rfl (fun ls hl => ?_)
        refine lv_goto (tgt := 9) hx hb dX2_merge_100 (by decide) ?_
        exact ih (lf + 1, rt, upd s1 (lf + rt - b) (nI (oj lf)), va_up o1 (lf + rt - b) (oj lf)) (by show z + b - ((lf + 1) + rt) < z + b - (lf + rt); omega) H locs ls ⟨⟨⟨by omega, by omega, i3, i4⟩, mg5_ i5 (by omega), mg6_ i6 (by omega) e1, mg7_ (by omega) (by omega) i7 (mg_l q9 (fun h => absurd h (by omega)))⟩, hP, hD, hS, (lv_sub hl [0, 3, 1, 4, 5, 6, 7] rfl)⟩
    · have q1 : rt < z := i_nge c2 (by omega) (by omega)
      refine lv_iload hx hb dX2_merge_21 (lv_at hl 2 rfl) ?_
      refine lv_iload_n hx hb dX2_merge_23 rfl (lv_at hl 5 rfl) ?_
      refine lv_icmp_ge (tgt := 52) hx hb dX2_merge_24 (by decide) (fun c3 => ?_) (fun c3 => ?_)
      · have q2 : b ≤ lf := i_ge c3 (by omega) (by omega)
        refine lv_iconst (v := 0) hx hb dX2_merge_52 (by decide) ?_
        refine lv_istore (lv' := [(7, .int 0), (6, .int (nI (lf + rt - b))), (5, .int (nI rt)), (4, .int (nI lf)), (0, .ref ca), (1, .int (nI a)), (2, .int (nI b)), (3, .int (nI z))]) hx hb dX2_merge_53 hl (by decide) rfl (fun ls hl => ?_)
        refine lv_iload hx hb dX2_merge_55 (lv_at hl 0 rfl) ?_
        refine lv_if_eq (tgt := 80) hx hb dX2_merge_57 (by decide) (fun c9 => ?_) (fun c9 => ?_)
        · have q9 : rt < z := by omega
          refine lv_aload_n hx hb dX2_merge_80 rfl (lv_at hl 4 rfl) ?_
          refine va_get (D := g) (ci := 2) (v := .ref qp) (C := RX2) (T := TX2) (N := 6) hx hb hts hiX2 hown hK hP 0 rfl rfl 5 (by decide) (hts (.fieldLink RX2 29 "ShapeRelator$Cuts" "spare" "[I") (List.mem_of_getElem? (i := 2) rfl)) (fun _ h9 => h9) rfl dX2_merge_81 ?_
          refine lv_iload hx hb dX2_merge_84 (lv_at hl 1 rfl) ?_
          refine lv_aload_n hx hb dX2_merge_86 rfl (lv_at hl 4 rfl) ?_
          refine va_get (D := g) (ci := 2) (v := .ref qr) (C := RX2) (T := TX2) (N := 6) hx hb hts hiX2 hown hK hP 0 rfl rfl 4 (by decide) (hts (.fieldLink RX2 26 "ShapeRelator$Cuts" "order" "[I") (List.mem_of_getElem? (i := 1) rfl)) (fun _ h9 => h9) rfl dX2_merge_87 ?_
          refine lv_iload hx hb dX2_merge_90 (lv_at hl 2 rfl) ?_
          refine va_iald (D := g) hx hb hK hP 3 0 rfl rfl (vp_in_nI (show rt < cap by omega) (by omega)) dX2_merge_92 ?_
          refine tpi_ (y := (nI (oj rt))) (by rw [nI_clamp (by omega), (h5 rt (by omega) q9).1]) ?_
          refine va_iast (D := g) hx hb hK hP hD hS 4 0 rfl rfl (vp_in_nI (show lf + rt - b < cap by omega) (by omega)) dX2_merge_93 (fun H locs hP hD hS => ?_)
          rw [nI_clamp (show lf + rt - b < 2 ^ 31 by omega)] at hP hD
          have hP : va_P g vwCl [(ca, .inr (2, cu_ cs qo qu qg qr qp)), (qo, .inl (cJ, cap, .inr (.inl ov))), (qu, .inl (cJ, cap, .inr (.inl un))), (qr, .inl (cI, cap, .inl od)), (qp, .inl (cI, cap, .inl (upd s1 (lf + rt - b) (nI (oj rt)))))] H := hP
          have hD : va_D A [(ca, .inr (2, cu_ cs qo qu qg qr qp)), (qo, .inl (cJ, cap, .inr (.inl ov))), (qu, .inl (cJ, cap, .inr (.inl un))), (qr, .inl (cI, cap, .inl od)), (qp, .inl (cI, cap, .inl (upd s1 (lf + rt - b) (nI (oj rt)))))] := hD
          refine lv_iinc (v := (nI (rt + 1))) (lv' := [(5, .int (nI (rt + 1))), (7, .int 0), (6, .int (nI (lf + rt - b))), (4, .int (nI lf)), (0, .ref ca), (1, .int (nI a)), (2, .int (nI b)), (3, .int (nI z))]) hx hb dX2_merge_94 hl (k := 2) rfl (nI_1 rt) (by decide) rfl (fun ls hl => ?_)
          refine lv_iinc (v := (nI (lf + (rt + 1) - b))) (lv' := [(6, .int (nI (lf + (rt + 1) - b))), (5, .int (nI (rt + 1))), (7, .int 0), (4, .int (nI lf)), (0, .ref ca), (1, .int (nI a)), (2, .int (nI b)), (3, .int (nI z))]) hx hb dX2_merge_97 hl (k := 2) rfl (by rw [show lf + (rt + 1) - b = lf + rt - b + 1 by omega]; exact nI_1 _) (by decide) rfl (fun ls hl => ?_)
          refine lv_goto (tgt := 9) hx hb dX2_merge_100 (by decide) ?_
          exact ih (lf, rt + 1, upd s1 (lf + rt - b) (nI (oj rt)), va_up o1 (lf + rt - b) (oj rt)) (by show z + b - (lf + (rt + 1)) < z + b - (lf + rt); omega) H locs ls ⟨⟨⟨i1, i2, by omega, by omega⟩, mg5_ i5 (by omega), mg6_ i6 (by omega) e1, mg7_ (by omega) (by omega) i7 (mg_r q9 (fun h => absurd h (by omega)))⟩, hP, hD, hS, (lv_sub hl [0, 1, 3, 4, 5, 6, 7] rfl)⟩
        · exact absurd rfl c9
      · have q2 : lf < b := i_nge c3 (by omega) (by omega)
        refine lv_aload_n hx hb dX2_merge_27 rfl (lv_at hl 3 rfl) ?_
        refine lv_aload_n hx hb dX2_merge_28 rfl (lv_at hl 3 rfl) ?_
        refine va_get (D := g) (ci := 2) (v := .ref qr) (C := RX2) (T := TX2) (N := 6) hx hb hts hiX2 hown hK hP 0 rfl rfl 4 (by decide) (hts (.fieldLink RX2 26 "ShapeRelator$Cuts" "order" "[I") (List.mem_of_getElem? (i := 1) rfl)) (fun _ h9 => h9) rfl dX2_merge_29 ?_
        refine lv_iload hx hb dX2_merge_32 (lv_at hl 2 rfl) ?_
        refine va_iald (D := g) hx hb hK hP 3 0 rfl rfl (vp_in_nI (show lf < cap by omega) (by omega)) dX2_merge_34 ?_
        refine tpi_ (y := (nI (oj lf))) (by rw [nI_clamp (by omega), (h5 lf i1 (by omega)).1]) ?_
        refine lv_aload_n hx hb dX2_merge_35 rfl (lv_at hl 3 rfl) ?_
        refine va_get (D := g) (ci := 2) (v := .ref qr) (C := RX2) (T := TX2) (N := 6) hx hb hts hiX2 hown hK hP 0 rfl rfl 4 (by decide) (hts (.fieldLink RX2 26 "ShapeRelator$Cuts" "order" "[I") (List.mem_of_getElem? (i := 1) rfl)) (fun _ h9 => h9) rfl dX2_merge_36 ?_
        refine lv_iload hx hb dX2_merge_39 (lv_at hl 1 rfl) ?_
        refine va_iald (D := g) hx hb hK hP 3 0 rfl rfl (vp_in_nI (show rt < cap by omega) (by omega)) dX2_merge_41 ?_
        refine tpi_ (y := (nI (oj rt))) (by rw [nI_clamp (by omega), (h5 rt (by omega) q1).1]) ?_
        have hPc := hP.sub (ws' := [(ca, .inr (2, cu_ cs qo qu qg qr qp)), (qo, .inl (cJ, cap, .inr (.inl ov))), (qu, .inl (cJ, cap, .inr (.inl un)))]) [0, 1, 2] rfl
        have hDc := hD.sub (ws' := [(ca, .inr (2, cu_ cs qo qu qg qr qp)), (qo, .inl (cJ, cap, .inr (.inl ov))), (qu, .inl (cJ, cap, .inr (.inl un)))]) [0, 1, 2] (by decide) rfl
        have hFc := va_free (wc := [(ca, .inr (2, cu_ cs qo qu qg qr qp)), (qo, .inl (cJ, cap, .inr (.inl ov))), (qu, .inl (cJ, cap, .inr (.inl un)))]) hD hS hA [0, 1, 2] rfl
        refine va_calli (va_runV (As := [.int (nI (oj lf)), .int (nI (oj rt))]) (rest := []) ⟨hx, hb, hml, hown, hts⟩ (kX2_compare l g cI cJ cZ H.size ca cs qo qu qg qr qp cap ov un (oj lf) (oj rt) h1 ((h5 lf i1 (by omega)).2) ((h5 rt (by omega) q1).2)) (cwV 2 hts gX2_merge_X2_compare rfl rfl rfl (by decide +kernel) ⟨Nat.le_of_ble_eq_true rfl, Nat.le_of_ble_eq_true rfl⟩) (pv_ hK hPc hDc (va_recv hK hPc (ci := 2) (q0 := 0) rfl rfl)) rfl rfl hl.1 rfl (lv_room (Nat.le_of_ble_eq_true rfl)) dX2_merge_42 ⟨Nat.zero_le _, Nat.zero_le _⟩) hS (fun q _ h => hFc q h) hFc (fun r1 u t H1 locs ht hvm hw1 hB hz1 hk1 hS => ?_)
        obtain ⟨hP1, hK1, hD1⟩ := hB
        rw [ht] at hP1
        obtain ⟨hP, hD⟩ := va_join (wr := [(qr, .inl (cI, cap, .inl od)), (qp, .inl (cI, cap, .inl s1))]) (w1 := [(ca, .inr (2, cu_ cs qo qu qg qr qp)), (qo, .inl (cJ, cap, .inr (.inl ov))), (qu, .inl (cJ, cap, .inr (.inl un)))]) hP hD [0, 1, 2] [3, 4] rfl rfl (by decide) (by decide) hk1 hFc hP1 hD1
        clear hPc hDc hFc hP1 hD1 hK1 hk1 hz1 hvm ht
        generalize H1 = H at hP hS ⊢
        have hP : va_P g vwCl [(qr, .inl (cI, cap, .inl od)), (qp, .inl (cI, cap, .inl s1)), (ca, .inr (2, cu_ cs qo qu qg qr qp)), (qo, .inl (cJ, cap, .inr (.inl ov))), (qu, .inl (cJ, cap, .inr (.inl un)))] H := hP
        have hD : va_D A [(qr, .inl (cI, cap, .inl od)), (qp, .inl (cI, cap, .inl s1)), (ca, .inr (2, cu_ cs qo qu qg qr qp)), (qo, .inl (cJ, cap, .inr (.inl ov))), (qu, .inl (cJ, cap, .inr (.inl un)))] := hD
        refine lv_if_gt (tgt := 52) hx hb dX2_merge_45 (by decide) (fun c4 => ?_) (fun c4 => ?_)
        · refine lv_iconst (v := 0) hx hb dX2_merge_52 (by decide) ?_
          refine lv_istore (lv' := [(7, .int 0), (6, .int (nI (lf + rt - b))), (5, .int (nI rt)), (4, .int (nI lf)), (0, .ref ca), (1, .int (nI a)), (2, .int (nI b)), (3, .int (nI z))]) hx hb dX2_merge_53 hl (by decide) rfl (fun ls hl => ?_)
          refine lv_iload hx hb dX2_merge_55 (lv_at hl 0 rfl) ?_
          refine lv_if_eq (tgt := 80) hx hb dX2_merge_57 (by decide) (fun c9 => ?_) (fun c9 => ?_)
          · have q9 : rt < z := by omega
            refine lv_aload_n hx hb dX2_merge_80 rfl (lv_at hl 4 rfl) ?_
            refine va_get (D := g) (ci := 2) (v := .ref qp) (C := RX2) (T := TX2) (N := 6) hx hb hts hiX2 hown hK hP 2 rfl rfl 5 (by decide) (hts (.fieldLink RX2 29 "ShapeRelator$Cuts" "spare" "[I") (List.mem_of_getElem? (i := 2) rfl)) (fun _ h9 => h9) rfl dX2_merge_81 ?_
            refine lv_iload hx hb dX2_merge_84 (lv_at hl 1 rfl) ?_
            refine lv_aload_n hx hb dX2_merge_86 rfl (lv_at hl 4 rfl) ?_
            refine va_get (D := g) (ci := 2) (v := .ref qr) (C := RX2) (T := TX2) (N := 6) hx hb hts hiX2 hown hK hP 2 rfl rfl 4 (by decide) (hts (.fieldLink RX2 26 "ShapeRelator$Cuts" "order" "[I") (List.mem_of_getElem? (i := 1) rfl)) (fun _ h9 => h9) rfl dX2_merge_87 ?_
            refine lv_iload hx hb dX2_merge_90 (lv_at hl 2 rfl) ?_
            refine va_iald (D := g) hx hb hK hP 0 0 rfl rfl (vp_in_nI (show rt < cap by omega) (by omega)) dX2_merge_92 ?_
            refine tpi_ (y := (nI (oj rt))) (by rw [nI_clamp (by omega), (h5 rt (by omega) q9).1]) ?_
            refine va_iast (D := g) hx hb hK hP hD hS 1 0 rfl rfl (vp_in_nI (show lf + rt - b < cap by omega) (by omega)) dX2_merge_93 (fun H locs hP hD hS => ?_)
            rw [nI_clamp (show lf + rt - b < 2 ^ 31 by omega)] at hP hD
            have hP : va_P g vwCl [(qr, .inl (cI, cap, .inl od)), (qp, .inl (cI, cap, .inl (upd s1 (lf + rt - b) (nI (oj rt))))), (ca, .inr (2, cu_ cs qo qu qg qr qp)), (qo, .inl (cJ, cap, .inr (.inl ov))), (qu, .inl (cJ, cap, .inr (.inl un)))] H := hP
            have hD : va_D A [(qr, .inl (cI, cap, .inl od)), (qp, .inl (cI, cap, .inl (upd s1 (lf + rt - b) (nI (oj rt))))), (ca, .inr (2, cu_ cs qo qu qg qr qp)), (qo, .inl (cJ, cap, .inr (.inl ov))), (qu, .inl (cJ, cap, .inr (.inl un)))] := hD
            refine lv_iinc (v := (nI (rt + 1))) (lv' := [(5, .int (nI (rt + 1))), (7, .int 0), (6, .int (nI (lf + rt - b))), (4, .int (nI lf)), (0, .ref ca), (1, .int (nI a)), (2, .int (nI b)), (3, .int (nI z))]) hx hb dX2_merge_94 hl (k := 2) rfl (nI_1 rt) (by decide) rfl (fun ls hl => ?_)
            refine lv_iinc (v := (nI (lf + (rt + 1) - b))) (lv' := [(6, .int (nI (lf + (rt + 1) - b))), (5, .int (nI (rt + 1))), (7, .int 0), (4, .int (nI lf)), (0, .ref ca), (1, .int (nI a)), (2, .int (nI b)), (3, .int (nI z))]) hx hb dX2_merge_97 hl (k := 2) rfl (by rw [show lf + (rt + 1) - b = lf + rt - b + 1 by omega]; exact nI_1 _) (by decide) rfl (fun ls hl => ?_)
            refine lv_goto (tgt := 9) hx hb dX2_merge_100 (by decide) ?_
            exact ih (lf, rt + 1, upd s1 (lf + rt - b) (nI (oj rt)), va_up o1 (lf + rt - b) (oj rt)) (by show z + b - (lf + (rt + 1)) < z + b - (lf + rt); omega) H locs ls ⟨⟨⟨i1, i2, by omega, by omega⟩, mg5_ i5 (by omega), mg6_ i6 (by omega) e1, mg7_ (by omega) (by omega) i7 (mg_r q9 (fun _ => cle_n (by rw [← hw1]; exact c4)))⟩, (hP.sub [2, 3, 4, 0, 1] rfl), (hD.sub [2, 3, 4, 0, 1] (by decide) rfl), hS, (lv_sub hl [0, 1, 3, 4, 5, 6, 7] rfl)⟩
          · exact absurd rfl c9
        · refine lv_iconst (v := 1) hx hb dX2_merge_48 (by decide) ?_
          refine lv_goto (tgt := 53) hx hb dX2_merge_49 (by decide) ?_
          refine lv_istore (lv' := [(7, .int 1), (6, .int (nI (lf + rt - b))), (5, .int (nI rt)), (4, .int (nI lf)), (0, .ref ca), (1, .int (nI a)), (2, .int (nI b)), (3, .int (nI z))]) hx hb dX2_merge_53 hl (by decide) rfl (fun ls hl => ?_)
          refine lv_iload hx hb dX2_merge_55 (lv_at hl 0 rfl) ?_
          refine lv_if_eq (tgt := 80) hx hb dX2_merge_57 (by decide) (fun c9 => ?_) (fun c9 => ?_)
          · exact absurd c9 (by decide)
          · have q9 : lf < b := by omega
            refine lv_aload_n hx hb dX2_merge_60 rfl (lv_at hl 4 rfl) ?_
            refine va_get (D := g) (ci := 2) (v := .ref qp) (C := RX2) (T := TX2) (N := 6) hx hb hts hiX2 hown hK hP 2 rfl rfl 5 (by decide) (hts (.fieldLink RX2 29 "ShapeRelator$Cuts" "spare" "[I") (List.mem_of_getElem? (i := 2) rfl)) (fun _ h9 => h9) rfl dX2_merge_61 ?_
            refine lv_iload hx hb dX2_merge_64 (lv_at hl 1 rfl) ?_
            refine lv_aload_n hx hb dX2_merge_66 rfl (lv_at hl 4 rfl) ?_
            refine va_get (D := g) (ci := 2) (v := .ref qr) (C := RX2) (T := TX2) (N := 6) hx hb hts hiX2 hown hK hP 2 rfl rfl 4 (by decide) (hts (.fieldLink RX2 26 "ShapeRelator$Cuts" "order" "[I") (List.mem_of_getElem? (i := 1) rfl)) (fun _ h9 => h9) rfl dX2_merge_67 ?_
            refine lv_iload hx hb dX2_merge_70 (lv_at hl 3 rfl) ?_
            refine va_iald (D := g) hx hb hK hP 0 0 rfl rfl (vp_in_nI (show lf < cap by omega) (by omega)) dX2_merge_72 ?_
            refine tpi_ (y := (nI (oj lf))) (by rw [nI_clamp (by omega), (h5 lf i1 (by omega)).1]) ?_
            refine va_iast (D := g) hx hb hK hP hD hS 1 0 rfl rfl (vp_in_nI (show lf + rt - b < cap by omega) (by omega)) dX2_merge_73 (fun H locs hP hD hS => ?_)
            rw [nI_clamp (show lf + rt - b < 2 ^ 31 by omega)] at hP hD
            have hP : va_P g vwCl [(qr, .inl (cI, cap, .inl od)), (qp, .inl (cI, cap, .inl (upd s1 (lf + rt - b) (nI (oj lf))))), (ca, .inr (2, cu_ cs qo qu qg qr qp)), (qo, .inl (cJ, cap, .inr (.inl ov))), (qu, .inl (cJ, cap, .inr (.inl un)))] H := hP
            have hD : va_D A [(qr, .inl (cI, cap, .inl od)), (qp, .inl (cI, cap, .inl (upd s1 (lf + rt - b) (nI (oj lf))))), (ca, .inr (2, cu_ cs qo qu qg qr qp)), (qo, .inl (cJ, cap, .inr (.inl ov))), (qu, .inl (cJ, cap, .inr (.inl un)))] := hD
            refine lv_iinc (v := (nI (lf + 1))) (lv' := [(4, .int (nI (lf + 1))), (7, .int 1), (6, .int (nI (lf + rt - b))), (5, .int (nI rt)), (0, .ref ca), (1, .int (nI a)), (2, .int (nI b)), (3, .int (nI z))]) hx hb dX2_merge_74 hl (k := 3) rfl (nI_1 lf) (by decide) rfl (fun ls hl => ?_)
            refine lv_goto (tgt := 97) hx hb dX2_merge_77 (by decide) ?_
            refine lv_iinc (v := (nI (lf + 1 + rt - b))) (lv' := [(6, .int (nI (lf + 1 + rt - b))), (4, .int (nI (lf + 1))), (7, .int 1), (5, .int (nI rt)), (0, .ref ca), (1, .int (nI a)), (2, .int (nI b)), (3, .int (nI z))]) hx hb dX2_merge_97 hl (k := 2) rfl (by rw [show lf + 1 + rt - b = lf + rt - b + 1 by omega]; exact nI_1 _) (by decide) rfl (fun ls hl => ?_)
            refine lv_goto (tgt := 9) hx hb dX2_merge_100 (by decide) ?_
            exact ih (lf + 1, rt, upd s1 (lf + rt - b) (nI (oj lf)), va_up o1 (lf + rt - b) (oj lf)) (by show z + b - ((lf + 1) + rt) < z + b - (lf + rt); omega) H locs ls ⟨⟨⟨by omega, by omega, i3, i4⟩, mg5_ i5 (by omega), mg6_ i6 (by omega) e1, mg7_ (by omega) (by omega) i7 (mg_l q9 (fun _ => cle_y (by rw [← hw1]; exact c4)))⟩, (hP.sub [2, 3, 4, 0, 1] rfl), (hD.sub [2, 3, 4, 0, 1] (by decide) rfl), hS, (lv_sub hl [0, 3, 1, 4, 5, 6, 7] rfl)⟩

theorem ikX2_sort_X2 : ∀ w ∈ wsX20, w ∈ wsX2_sort := by decide +kernel
set_option maxHeartbeats 1000000 in
set_option maxRecDepth 100000 in
theorem kX2_sort (l : Launch) (g : va_G) (cI cJ cZ : ClassId) (sz : Nat) (ca : Nat) (qo : Nat) (qu : Nat) (qg : Nat) (qr : Nat) (qp : Nat) (cap : Nat) (ov : Nat → Int64) (un : Nat → Int64) (od : Nat → Int32) (sp : Nat → Int32) (oj : Nat → Nat) (n : Nat) (h1 : cap < 100000) (h2 : n ≤ cap) (h5 : ∀ i, i < n → od i = nI (oj i) ∧ oj i < n) (htr : ∀ a b c, a < n → b < n → c < n → cle_ ov un a b = true → cle_ ov un b c = true → cle_ ov un a c = true) (hto : ∀ a b, a < n → b < n → cle_ ov un a b = true ∨ cle_ ov un b a = true) : Met l yX2_sort wsX2_sort ({ frames := 3, cells := 0, slots := 0, locals := 88 }) (pc_ g cI cJ cZ [.ref ca] [(ca, .inr (2, cu_ (nI n) qo qu qg qr qp)), (qo, .inl (cJ, cap, .inr (.inl ov))), (qu, .inl (cJ, cap, .inr (.inl un))), (qr, .inl (cI, cap, .inl od)), (qp, .inl (cI, cap, .inl sp))] sz) (va_Qv (fun (u : (Nat → Int32) × (Nat → Int32) × (Nat → Nat)) => match u with | (od2, sp2, oj2) => (∀ i, i < n → od2 i = nI (oj2 i) ∧ oj2 i < n) ∧ (seg_ oj2 0 n).Perm (seg_ oj 0 n) ∧ blk_ ov un oj2 n n) (fun (u : (Nat → Int32) × (Nat → Int32) × (Nat → Nat)) t => match u with | (od2, sp2, oj2) => ∃ (qr2 : Nat) (qp2 : Nat), wd_ g cI cJ cZ (va_A [(ca, .inr (2, cu_ (nI n) qo qu qg qr qp)), (qo, .inl (cJ, cap, .inr (.inl ov))), (qu, .inl (cJ, cap, .inr (.inl un))), (qr, .inl (cI, cap, .inl od)), (qp, .inl (cI, cap, .inl sp))] sz) [(ca, .inr (2, cu_ (nI n) qo qu qg qr2 qp2)), (qo, .inl (cJ, cap, .inr (.inl ov))), (qu, .inl (cJ, cap, .inr (.inl un))), (qr2, .inl (cI, cap, .inl od2)), (qp2, .inl (cI, cap, .inl sp2))] t) (va_A [(ca, .inr (2, cu_ (nI n) qo qu qg qr qp)), (qo, .inl (cJ, cap, .inr (.inl ov))), (qu, .inl (cJ, cap, .inr (.inl un))), (qr, .inl (cI, cap, .inl od)), (qp, .inl (cI, cap, .inl sp))] sz)) (0) (0) (va_A [(ca, .inr (2, cu_ (nI n) qo qu qg qr qp)), (qo, .inl (cJ, cap, .inr (.inl ov))), (qu, .inl (cJ, cap, .inr (.inl un))), (qr, .inl (cI, cap, .inl od)), (qp, .inl (cI, cap, .inl sp))] sz) := by
  refine Met.ofW (cc := cX2_sort) (maxL := 3) (ret := none) (by decide) rfl ?_
  intro p e s m args below meth c s₁ B hml hv
  obtain ⟨rfl, hsz, hP, hK, hD0⟩ := hv
  have hx := B.exec
  have hb := B.bytes
  have hr := B.returns
  have hts := atoms_spec (ws := wsX2_sort) B.pre
  have hown : s.vm.findClass RX2 = some m.cls := findClass_of_methodNamed B.named
  have hlocks := B.notSynchronized
  subst hsz
  have hD := hD0.self (sz := s.heap.size)
  generalize hAe : va_A [(ca, .inr (2, cu_ (nI n) qo qu qg qr qp)), (qo, .inl (cJ, cap, .inr (.inl ov))), (qu, .inl (cJ, cap, .inr (.inl un))), (qr, .inl (cI, cap, .inl od)), (qp, .inl (cI, cap, .inl sp))] s.heap.size = A at hD ⊢
  have hA : ∀ q : Nat, s.heap.size ≤ q → A q := fun q h => by rw [← hAe]; exact Or.inr h
  have hS : va_S A s.heap s.heap [] := va_S.rf
  have hP : va_P g vwCl [(ca, .inr (2, cu_ (nI n) qo qu qg qr qp)), (qo, .inl (cJ, cap, .inr (.inl ov))), (qu, .inl (cJ, cap, .inr (.inl un))), (qr, .inl (cI, cap, .inl od)), (qp, .inl (cI, cap, .inl sp))] s.heap := hP
  have hl := lv_entry ([.ref ca]) (n := 3) (Nat.le_of_ble_eq_true rfl)
  rw [lg_entry_eq]
  generalize (lg_sl ([.ref ca]) ++ List.replicate (3 - (lg_sl ([.ref ca])).length) Slot.unset).toArray = ls at hl ⊢
  have hl : lv_has ls 3 [(0, .ref ca)] := hl
  have hH0 : s.heap = s.heap := rfl
  have hiX2 := ikX2_sort_X2
  refine lv_iconst (v := 1) hx hb dX2_sort_0 (by decide) ?_
  refine lv_istore_n (lv' := [(1, .int 1), (0, .ref ca)]) hx hb dX2_sort_1 rfl hl (by decide) rfl (fun ls hl => ?_)
  refine lpW (σ := Nat × (Nat → Int32) × (Nat → Int32) × (Nat → Nat) × Nat × Nat) (fun (wd, o0, s0, j0, r0, p0) => 2 * n + 2 - wd) (fun (wd, o0, s0, j0, r0, p0) => 0) (fun (wd, o0, s0, j0, r0, p0) => 0) (fun (wd, o0, s0, j0, r0, p0) H locs ls => (1 ≤ wd ∧ wd ≤ 2 * n + 1 ∧ (∀ i, i < n → o0 i = nI (j0 i) ∧ j0 i < n) ∧ (seg_ j0 0 n).Perm (seg_ oj 0 n) ∧ blk_ ov un j0 n wd) ∧ va_P g vwCl [(ca, .inr (2, cu_ (nI n) qo qu qg r0 p0)), (qo, .inl (cJ, cap, .inr (.inl ov))), (qu, .inl (cJ, cap, .inr (.inl un))), (r0, .inl (cI, cap, .inl o0)), (p0, .inl (cI, cap, .inl s0))] H ∧ va_D A [(ca, .inr (2, cu_ (nI n) qo qu qg r0 p0)), (qo, .inl (cJ, cap, .inr (.inl ov))), (qu, .inl (cJ, cap, .inr (.inl un))), (r0, .inl (cI, cap, .inl o0)), (p0, .inl (cI, cap, .inl s0))] ∧ va_S A s.heap H locs ∧ lv_has ls 3 [(1, .int (nI wd)), (0, .ref ca)]) (fun x ih H locs ls hI => ?_) (1, od, sp, oj, qr, qp) rfl rfl ⟨⟨Nat.le_refl _, by omega, h5, List.Perm.refl _, blk_1⟩, hP, hD, hS, (lv_sub hl [0, 1] rfl)⟩
  obtain ⟨wd, o0, s0, j0, r0, p0⟩ := x
  obtain ⟨hi, hP, hD, hS, hl⟩ := hI
  have hP : va_P g vwCl [(ca, .inr (2, cu_ (nI n) qo qu qg r0 p0)), (qo, .inl (cJ, cap, .inr (.inl ov))), (qu, .inl (cJ, cap, .inr (.inl un))), (r0, .inl (cI, cap, .inl o0)), (p0, .inl (cI, cap, .inl s0))] H := hP
  have hD : va_D A [(ca, .inr (2, cu_ (nI n) qo qu qg r0 p0)), (qo, .inl (cJ, cap, .inr (.inl ov))), (qu, .inl (cJ, cap, .inr (.inl un))), (r0, .inl (cI, cap, .inl o0)), (p0, .inl (cI, cap, .inl s0))] := hD
  have hl : lv_has ls 3 [(1, .int (nI wd)), (0, .ref ca)] := hl
  show W p l e _ s m _ below meth c H locs (0) (0) _ (F0 m 2 ls [])
  obtain ⟨i1, i2, i3, i4, i5⟩ := hi
  refine lv_iload_n hx hb dX2_sort_2 rfl (lv_at hl 0 rfl) ?_
  refine lv_aload_n hx hb dX2_sort_3 rfl (lv_at hl 1 rfl) ?_
  refine va_get (D := g) (ci := 2) (v := .int (nI n)) (C := RX2) (T := TX2) (N := 6) hx hb hts hiX2 hown hK hP 0 rfl rfl 0 (by decide) (hts (.fieldLink RX2 9 "ShapeRelator$Cuts" "size" "I") (List.mem_of_getElem? (i := 1) rfl)) (fun _ h9 => h9) rfl dX2_sort_4 ?_
  refine lv_icmp_ge (tgt := 81) hx hb dX2_sort_7 (by decide) (fun c1 => ?_) (fun c1 => ?_)
  · have e1 : n ≤ wd := i_ge c1 (by omega) (by omega)
    have hP9 := hP.sub (ws' := [(ca, .inr (2, cu_ (nI n) qo qu qg r0 p0)), (qo, .inl (cJ, cap, .inr (.inl ov))), (qu, .inl (cJ, cap, .inr (.inl un))), (r0, .inl (cI, cap, .inl o0)), (p0, .inl (cI, cap, .inl s0))]) [0, 1, 2, 3, 4] rfl
    have hD9 := hD.sub (ws' := [(ca, .inr (2, cu_ (nI n) qo qu qg r0 p0)), (qo, .inl (cJ, cap, .inr (.inl ov))), (qu, .inl (cJ, cap, .inr (.inl un))), (r0, .inl (cI, cap, .inl o0)), (p0, .inl (cI, cap, .inl s0))]) [0, 1, 2, 3, 4] (by decide) rfl
    exact W.vret hx hb hr (fun t ht hW => ⟨⟨(o0, s0, j0), rfl, ⟨i3, i4, blk_m i5 e1⟩, r0, p0, by rw [ht]; exact hP9, va_K.moved hW.alike hK, hD9⟩, hS.F ht⟩) hS.2.2 dX2_sort_81
  · have e1 : wd < n := i_nge c1 (by omega) (by omega)
    have ihO := ih
    refine lv_iconst (v := 0) hx hb dX2_sort_10 (by decide) ?_
    refine lv_istore_n (lv' := [(2, .int 0), (1, .int (nI wd)), (0, .ref ca)]) hx hb dX2_sort_11 rfl hl (by decide) rfl (fun ls hl => ?_)
    refine lpW (σ := Nat × (Nat → Int32) × (Nat → Nat)) (fun (x1, s1, j1) => n + 2 * wd - x1) (fun (x1, s1, j1) => 0) (fun (x1, s1, j1) => 0) (fun (x1, s1, j1) H locs ls => (x1 ≤ n + 2 * wd ∧ x1 % (2 * wd) = 0 ∧ (∀ i, i < x1 → i < n → s1 i = nI (j1 i) ∧ j1 i < n) ∧ (seg_ j1 0 (mn_ x1 n)).Perm (seg_ j0 0 (mn_ x1 n)) ∧ blk_ ov un j1 (mn_ x1 n) (2 * wd)) ∧ va_P g vwCl [(ca, .inr (2, cu_ (nI n) qo qu qg r0 p0)), (qo, .inl (cJ, cap, .inr (.inl ov))), (qu, .inl (cJ, cap, .inr (.inl un))), (r0, .inl (cI, cap, .inl o0)), (p0, .inl (cI, cap, .inl s1))] H ∧ va_D A [(ca, .inr (2, cu_ (nI n) qo qu qg r0 p0)), (qo, .inl (cJ, cap, .inr (.inl ov))), (qu, .inl (cJ, cap, .inr (.inl un))), (r0, .inl (cI, cap, .inl o0)), (p0, .inl (cI, cap, .inl s1))] ∧ va_S A s.heap H locs ∧ lv_has ls 3 [(2, .int (nI x1)), (1, .int (nI wd)), (0, .ref ca)]) (fun x ih H locs ls hI => ?_) (0, s0, j0) rfl rfl ⟨⟨by omega, Nat.zero_mod _, fun i q => absurd q (Nat.not_lt_zero _), List.Perm.refl _, blk_0 (by unfold mn_; omega)⟩, hP, hD, hS, (lv_sub hl [0, 1, 2] rfl)⟩
    obtain ⟨x1, s1, j1⟩ := x
    obtain ⟨hj, hP, hD, hS, hl⟩ := hI
    have hP : va_P g vwCl [(ca, .inr (2, cu_ (nI n) qo qu qg r0 p0)), (qo, .inl (cJ, cap, .inr (.inl ov))), (qu, .inl (cJ, cap, .inr (.inl un))), (r0, .inl (cI, cap, .inl o0)), (p0, .inl (cI, cap, .inl s1))] H := hP
    have hD : va_D A [(ca, .inr (2, cu_ (nI n) qo qu qg r0 p0)), (qo, .inl (cJ, cap, .inr (.inl ov))), (qu, .inl (cJ, cap, .inr (.inl un))), (r0, .inl (cI, cap, .inl o0)), (p0, .inl (cI, cap, .inl s1))] := hD
    have hl : lv_has ls 3 [(2, .int (nI x1)), (1, .int (nI wd)), (0, .ref ca)] := hl
    show W p l e _ s m _ below meth c H locs (0) (0) _ (F0 m 12 ls [])
    obtain ⟨j1a, j1b, j1c, j1d, j1e⟩ := hj
    refine lv_iload_n hx hb dX2_sort_12 rfl (lv_at hl 0 rfl) ?_
    refine lv_aload_n hx hb dX2_sort_13 rfl (lv_at hl 2 rfl) ?_
    refine va_get (D := g) (ci := 2) (v := .int (nI n)) (C := RX2) (T := TX2) (N := 6) hx hb hts hiX2 hown hK hP 0 rfl rfl 0 (by decide) (hts (.fieldLink RX2 9 "ShapeRelator$Cuts" "size" "I") (List.mem_of_getElem? (i := 1) rfl)) (fun _ h9 => h9) rfl dX2_sort_14 ?_
    refine lv_icmp_ge (tgt := 56) hx hb dX2_sort_17 (by decide) (fun c2 => ?_) (fun c2 => ?_)
    · have e2 : n ≤ x1 := i_ge c2 (by omega) (by omega)
      have em : mn_ x1 n = n := by unfold mn_; omega
      rw [em] at j1d j1e
      refine lv_aload_n hx hb dX2_sort_56 rfl (lv_at hl 2 rfl) ?_
      refine va_get (D := g) (ci := 2) (v := .ref p0) (C := RX2) (T := TX2) (N := 6) hx hb hts hiX2 hown hK hP 0 rfl rfl 5 (by decide) (hts (.fieldLink RX2 29 "ShapeRelator$Cuts" "spare" "[I") (List.mem_of_getElem? (i := 6) rfl)) (fun _ h9 => h9) rfl dX2_sort_57 ?_
      refine lv_astore_n (lv' := [(2, .ref p0), (1, .int (nI wd)), (0, .ref ca)]) hx hb dX2_sort_60 rfl hl (by decide) rfl (fun ls hl => ?_)
      refine lv_aload_n hx hb dX2_sort_61 rfl (lv_at hl 2 rfl) ?_
      refine lv_aload_n hx hb dX2_sort_62 rfl (lv_at hl 2 rfl) ?_
      refine va_get (D := g) (ci := 2) (v := .ref r0) (C := RX2) (T := TX2) (N := 6) hx hb hts hiX2 hown hK hP 0 rfl rfl 4 (by decide) (hts (.fieldLink RX2 26 "ShapeRelator$Cuts" "order" "[I") (List.mem_of_getElem? (i := 7) rfl)) (fun _ h9 => h9) rfl dX2_sort_63 ?_
      refine va_put (D := g) (ci := 2) (v := .ref r0) (ty := .array .int) (C := RX2) (T := TX2) (N := 6) hx hb hts hiX2 tyX2 tyX2_ok nmX2 hown hK hP hD hS 0 rfl rfl 5 (by decide) (hts (.fieldLink RX2 29 "ShapeRelator$Cuts" "spare" "[I") (List.mem_of_getElem? (i := 6) rfl)) (fun _ h9 => h9) rfl (by decide +kernel) rfl rfl (Nat.le_of_ble_eq_true rfl) dX2_sort_66 (fun H locs hP hD hS => ?_)
      have hP : va_P g vwCl [(ca, .inr (2, cu_ (nI n) qo qu qg r0 r0)), (qo, .inl (cJ, cap, .inr (.inl ov))), (qu, .inl (cJ, cap, .inr (.inl un))), (r0, .inl (cI, cap, .inl o0)), (p0, .inl (cI, cap, .inl s1))] H := hP
      have hD : va_D A [(ca, .inr (2, cu_ (nI n) qo qu qg r0 r0)), (qo, .inl (cJ, cap, .inr (.inl ov))), (qu, .inl (cJ, cap, .inr (.inl un))), (r0, .inl (cI, cap, .inl o0)), (p0, .inl (cI, cap, .inl s1))] := hD
      refine lv_aload_n hx hb dX2_sort_69 rfl (lv_at hl 2 rfl) ?_
      refine lv_aload_n hx hb dX2_sort_70 rfl (lv_at hl 0 rfl) ?_
      refine va_put (D := g) (ci := 2) (v := .ref p0) (ty := .array .int) (C := RX2) (T := TX2) (N := 6) hx hb hts hiX2 tyX2 tyX2_ok nmX2 hown hK hP hD hS 0 rfl rfl 4 (by decide) (hts (.fieldLink RX2 26 "ShapeRelator$Cuts" "order" "[I") (List.mem_of_getElem? (i := 7) rfl)) (fun _ h9 => h9) rfl (by decide +kernel) rfl rfl (Nat.le_of_ble_eq_true rfl) dX2_sort_71 (fun H locs hP hD hS => ?_)
      have hP : va_P g vwCl [(ca, .inr (2, cu_ (nI n) qo qu qg p0 r0)), (qo, .inl (cJ, cap, .inr (.inl ov))), (qu, .inl (cJ, cap, .inr (.inl un))), (r0, .inl (cI, cap, .inl o0)), (p0, .inl (cI, cap, .inl s1))] H := hP
      have hD : va_D A [(ca, .inr (2, cu_ (nI n) qo qu qg p0 r0)), (qo, .inl (cJ, cap, .inr (.inl ov))), (qu, .inl (cJ, cap, .inr (.inl un))), (r0, .inl (cI, cap, .inl o0)), (p0, .inl (cI, cap, .inl s1))] := hD
      refine lv_iconst (v := 2) hx hb dX2_sort_74 (by decide) ?_
      refine lv_iload_n hx hb dX2_sort_75 rfl (lv_at hl 1 rfl) ?_
      refine lv_imul hx hb dX2_sort_76 ?_
      refine tpi_ (y := (nI (2 * wd))) (by rw [← pk_mul]; rfl) ?_
      refine lv_istore_n (lv' := [(1, .int (nI (2 * wd))), (2, .ref p0), (0, .ref ca)]) hx hb dX2_sort_77 rfl hl (by decide) rfl (fun ls hl => ?_)
      refine lv_goto (tgt := 2) hx hb dX2_sort_78 (by decide) ?_
      have ih := ihO
      exact ih (2 * wd, s1, o0, j1, p0, r0) (by show 2 * n + 2 - (2 * wd) < 2 * n + 2 - wd; omega) H locs ls ⟨⟨by omega, by omega, fun i q => j1c i (by omega) q, j1d.trans i4, j1e⟩, (hP.sub [0, 1, 2, 4, 3] rfl), (hD.sub [0, 1, 2, 4, 3] (by decide) rfl), hS, (lv_sub hl [0, 2] rfl)⟩
    · have e2 : x1 < n := i_nge c2 (by omega) (by omega)
      refine lv_aload_n hx hb dX2_sort_20 rfl (lv_at hl 2 rfl) ?_
      refine lv_iload_n hx hb dX2_sort_21 rfl (lv_at hl 0 rfl) ?_
      refine lv_iload_n hx hb dX2_sort_22 rfl (lv_at hl 0 rfl) ?_
      refine lv_iload_n hx hb dX2_sort_23 rfl (lv_at hl 1 rfl) ?_
      refine lv_iadd hx hb dX2_sort_24 ?_
      refine tpi_ (y := (nI (x1 + wd))) ((nI_add _ _).symm) ?_
      refine lv_aload_n hx hb dX2_sort_25 rfl (lv_at hl 2 rfl) ?_
      refine va_get (D := g) (ci := 2) (v := .int (nI n)) (C := RX2) (T := TX2) (N := 6) hx hb hts hiX2 hown hK hP 0 rfl rfl 0 (by decide) (hts (.fieldLink RX2 9 "ShapeRelator$Cuts" "size" "I") (List.mem_of_getElem? (i := 1) rfl)) (fun _ h9 => h9) rfl dX2_sort_26 ?_
      refine va_mmin hx hb (hml.trans hl.1.symm) hown (hts (.methodLink RX2 45 Lib.Math.min.name) (List.mem_of_getElem? (i := 2) rfl)) (hts (.static Lib.Math.min.name) (List.mem_of_getElem? (i := 3) rfl)) (hts (.initialized "java/lang/Math") (List.mem_of_getElem? (i := 4) rfl)) (hts (.code Lib.Math.min.name Lib.Math.min.code 2 (some .int)) (List.mem_of_getElem? (i := 5) rfl)) (Nat.le_of_ble_eq_true rfl) (Nat.le_of_ble_eq_true rfl) (Nat.zero_le _) (Nat.zero_le _) dX2_sort_29 ?_
      refine tpi_ (y := (nI (mn_ (x1 + wd) n))) (mnn_ (by omega) (by omega)) ?_
      refine lv_iload_n hx hb dX2_sort_32 rfl (lv_at hl 0 rfl) ?_
      refine lv_iconst (v := 2) hx hb dX2_sort_33 (by decide) ?_
      refine lv_iload_n hx hb dX2_sort_34 rfl (lv_at hl 1 rfl) ?_
      refine lv_imul hx hb dX2_sort_35 ?_
      refine tpi_ (y := (nI (2 * wd))) (by rw [← pk_mul]; rfl) ?_
      refine lv_iadd hx hb dX2_sort_36 ?_
      refine tpi_ (y := (nI (x1 + 2 * wd))) ((nI_add _ _).symm) ?_
      refine lv_aload_n hx hb dX2_sort_37 rfl (lv_at hl 2 rfl) ?_
      refine va_get (D := g) (ci := 2) (v := .int (nI n)) (C := RX2) (T := TX2) (N := 6) hx hb hts hiX2 hown hK hP 0 rfl rfl 0 (by decide) (hts (.fieldLink RX2 9 "ShapeRelator$Cuts" "size" "I") (List.mem_of_getElem? (i := 1) rfl)) (fun _ h9 => h9) rfl dX2_sort_38 ?_
      refine va_mmin hx hb (hml.trans hl.1.symm) hown (hts (.methodLink RX2 45 Lib.Math.min.name) (List.mem_of_getElem? (i := 2) rfl)) (hts (.static Lib.Math.min.name) (List.mem_of_getElem? (i := 3) rfl)) (hts (.initialized "java/lang/Math") (List.mem_of_getElem? (i := 4) rfl)) (hts (.code Lib.Math.min.name Lib.Math.min.code 2 (some .int)) (List.mem_of_getElem? (i := 5) rfl)) (Nat.le_of_ble_eq_true rfl) (Nat.le_of_ble_eq_true rfl) (Nat.zero_le _) (Nat.zero_le _) dX2_sort_41 ?_
      refine tpi_ (y := (nI (mn_ (x1 + 2 * wd) n))) (mnn_ (by omega) (by omega)) ?_
      have b1 : x1 ≤ mn_ (x1 + wd) n := by unfold mn_; omega
      have b2 : mn_ (x1 + wd) n ≤ mn_ (x1 + 2 * wd) n := by unfold mn_; omega
      have b3 : mn_ (x1 + 2 * wd) n ≤ n := by unfold mn_; omega
      have hPc := hP.sub (ws' := [(ca, .inr (2, cu_ (nI n) qo qu qg r0 p0)), (qo, .inl (cJ, cap, .inr (.inl ov))), (qu, .inl (cJ, cap, .inr (.inl un))), (r0, .inl (cI, cap, .inl o0)), (p0, .inl (cI, cap, .inl s1))]) [0, 1, 2, 3, 4] rfl
      have hDc := hD.sub (ws' := [(ca, .inr (2, cu_ (nI n) qo qu qg r0 p0)), (qo, .inl (cJ, cap, .inr (.inl ov))), (qu, .inl (cJ, cap, .inr (.inl un))), (r0, .inl (cI, cap, .inl o0)), (p0, .inl (cI, cap, .inl s1))]) [0, 1, 2, 3, 4] (by decide) rfl
      have hFc := va_free (wc := [(ca, .inr (2, cu_ (nI n) qo qu qg r0 p0)), (qo, .inl (cJ, cap, .inr (.inl ov))), (qu, .inl (cJ, cap, .inr (.inl un))), (r0, .inl (cI, cap, .inl o0)), (p0, .inl (cI, cap, .inl s1))]) hD hS hA [0, 1, 2, 3, 4] rfl
      refine va_callv (va_runV (As := [.int (nI x1), .int (nI (mn_ (x1 + wd) n)), .int (nI (mn_ (x1 + 2 * wd) n))]) (rest := []) ⟨hx, hb, hml, hown, hts⟩ (kX2_merge l g cI cJ cZ H.size ca (nI n) qo qu qg r0 p0 cap ov un o0 s1 j0 x1 (mn_ (x1 + wd) n) (mn_ (x1 + 2 * wd) n) (show cap < 1000000 by omega) b1 b2 (by omega) (fun i q1 q2 => ⟨(i3 i (by omega)).1, Nat.lt_of_lt_of_le (i3 i (by omega)).2 h2⟩)) (cwV 3 hts gX2_sort_X2_merge rfl rfl rfl (by decide +kernel) ⟨Nat.le_of_ble_eq_true rfl, Nat.le_of_ble_eq_true rfl⟩) (pv_ hK hPc hDc (va_recv hK hPc (ci := 2) (q0 := 0) rfl rfl)) rfl rfl hl.1 rfl (lv_room (Nat.le_of_ble_eq_true rfl)) dX2_sort_44 ⟨Nat.zero_le _, Nat.zero_le _⟩) hS (fun q _ h => hFc q h) hFc (fun u t H1 locs ht hvm hw1 hB hz1 hk1 hS => ?_)
      obtain ⟨s2, j2⟩ := u
      obtain ⟨hP1, hK1, hD1⟩ := hB
      rw [ht] at hP1
      dsimp only at hw1
      obtain ⟨hP, hD⟩ := va_join (wr := []) (w1 := [(ca, .inr (2, cu_ (nI n) qo qu qg r0 p0)), (qo, .inl (cJ, cap, .inr (.inl ov))), (qu, .inl (cJ, cap, .inr (.inl un))), (r0, .inl (cI, cap, .inl o0)), (p0, .inl (cI, cap, .inl s2))]) hP hD [0, 1, 2, 3, 4] [] rfl rfl (by decide) (by decide) hk1 hFc hP1 hD1
      clear hPc hDc hFc hP1 hD1 hK1 hk1 hz1 hvm ht
      generalize H1 = H at hP hS ⊢
      have hP : va_P g vwCl [(ca, .inr (2, cu_ (nI n) qo qu qg r0 p0)), (qo, .inl (cJ, cap, .inr (.inl ov))), (qu, .inl (cJ, cap, .inr (.inl un))), (r0, .inl (cI, cap, .inl o0)), (p0, .inl (cI, cap, .inl s2))] H := hP
      have hD : va_D A [(ca, .inr (2, cu_ (nI n) qo qu qg r0 p0)), (qo, .inl (cJ, cap, .inr (.inl ov))), (qu, .inl (cJ, cap, .inr (.inl un))), (r0, .inl (cI, cap, .inl o0)), (p0, .inl (cI, cap, .inl s2))] := hD
      have hst := srt_ htr hto i1 e1 e2 j1b i3 i5 j1c j1d j1e hw1
      refine lv_iload_n hx hb dX2_sort_47 rfl (lv_at hl 0 rfl) ?_
      refine lv_iconst (v := 2) hx hb dX2_sort_48 (by decide) ?_
      refine lv_iload_n hx hb dX2_sort_49 rfl (lv_at hl 1 rfl) ?_
      refine lv_imul hx hb dX2_sort_50 ?_
      refine tpi_ (y := (nI (2 * wd))) (by rw [← pk_mul]; rfl) ?_
      refine lv_iadd hx hb dX2_sort_51 ?_
      refine tpi_ (y := (nI (x1 + 2 * wd))) ((nI_add _ _).symm) ?_
      refine lv_istore_n (lv' := [(2, .int (nI (x1 + 2 * wd))), (1, .int (nI wd)), (0, .ref ca)]) hx hb dX2_sort_52 rfl hl (by decide) rfl (fun ls hl => ?_)
      refine lv_goto (tgt := 12) hx hb dX2_sort_53 (by decide) ?_
      exact ih (x1 + 2 * wd, s2, srj_ j1 j2 x1) (by show n + 2 * wd - (x1 + 2 * wd) < n + 2 * wd - x1; omega) H locs ls ⟨⟨by omega, by rw [Nat.add_mod_right]; exact j1b, hst⟩, hP, hD, hS, (lv_sub hl [0, 1, 2] rfl)⟩
end
