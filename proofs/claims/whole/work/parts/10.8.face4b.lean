section
theorem ikX5_relate1_X5 : ∀ w ∈ wsX50, w ∈ wsX5_relate := by decide +kernel
set_option maxHeartbeats 1000000 in
set_option maxRecDepth 100000 in
theorem kX5_relate1 (l : Launch) (g : va_G) (cI cJ cZ : ClassId) (sz : Nat) (ra0 : Nat) (f1 : Nat) (f2 : Nat) (oa : Nat) (k1 : Nat) (k2 : Nat) (ba : Nat) (ca : Nat) (qm0 : Nat) (mx : Nat → Int32)  : Met l yX5_relate wsX5_relate ({ frames := 1, cells := 0, slots := 0, locals := 22 }) (pc_ g cI cJ cZ [.ref ra0] [(ra0, .inr (5, sr_ f1 f2 oa)), (oa, .inr (4, ov_ k1 k2 ba ca qm0 1)), (qm0, .inl (cI, 9, .inl mx))] sz) (va_Qi (fun (r : Int32) (_ : Unit) => r = rel_ mx 9) (fun (_ : Unit) t => wd_ g cI cJ cZ (va_A [(ra0, .inr (5, sr_ f1 f2 oa)), (oa, .inr (4, ov_ k1 k2 ba ca qm0 1)), (qm0, .inl (cI, 9, .inl mx))] sz) [(ra0, .inr (5, sr_ f1 f2 oa)), (oa, .inr (4, ov_ k1 k2 ba ca qm0 1)), (qm0, .inl (cI, 9, .inl mx))] t) (va_A [(ra0, .inr (5, sr_ f1 f2 oa)), (oa, .inr (4, ov_ k1 k2 ba ca qm0 1)), (qm0, .inl (cI, 9, .inl mx))] sz)) (0) (0) (va_A [(ra0, .inr (5, sr_ f1 f2 oa)), (oa, .inr (4, ov_ k1 k2 ba ca qm0 1)), (qm0, .inl (cI, 9, .inl mx))] sz) := by
  refine Met.ofW (cc := cX5_relate) (maxL := 4) (ret := (some .int)) (by decide) rfl ?_
  intro p e s m args below meth c s₁ B hml hv
  obtain ⟨rfl, hsz, hP, hK, hD0⟩ := hv
  have hx := B.exec
  have hb := B.bytes
  have hr := B.returns
  have hts := atoms_spec (ws := wsX5_relate) B.pre
  have hown : s.vm.findClass RX5 = some m.cls := findClass_of_methodNamed B.named
  have hlocks := B.notSynchronized
  subst hsz
  have hD := hD0.self (sz := s.heap.size)
  generalize hAe : va_A [(ra0, .inr (5, sr_ f1 f2 oa)), (oa, .inr (4, ov_ k1 k2 ba ca qm0 1)), (qm0, .inl (cI, 9, .inl mx))] s.heap.size = A at hD ⊢
  have hA : ∀ q : Nat, s.heap.size ≤ q → A q := fun q h => by rw [← hAe]; exact Or.inr h
  have hS : va_S A s.heap s.heap [] := va_S.rf
  have hP : va_P g vwCl [(ra0, .inr (5, sr_ f1 f2 oa)), (oa, .inr (4, ov_ k1 k2 ba ca qm0 1)), (qm0, .inl (cI, 9, .inl mx))] s.heap := hP
  have hl := lv_entry ([.ref ra0]) (n := 4) (Nat.le_of_ble_eq_true rfl)
  rw [lg_entry_eq]
  generalize (lg_sl ([.ref ra0]) ++ List.replicate (4 - (lg_sl ([.ref ra0])).length) Slot.unset).toArray = ls at hl ⊢
  have hl : lv_has ls 4 [(0, .ref ra0)] := hl
  have hH0 : s.heap = s.heap := rfl
  have hiX5 := ikX5_relate1_X5
  refine lv_aload_n hx hb dX5_relate_0 rfl (lv_at hl 0 rfl) ?_
  refine va_get (D := g) (ci := 5) (v := .ref oa) (C := RX5) (T := TX5) (N := 3) hx hb hts hiX5 hown hK hP 0 rfl rfl 2 (by decide) (hts (.fieldLink RX5 24 "ShapeRelator" "overlay" "LShapeRelator$Overlay;") (List.mem_of_getElem? (i := 1) rfl)) (fun _ h9 => h9) rfl dX5_relate_1 ?_
  have hPc := hP.sub (ws' := [(oa, .inr (4, ov_ k1 k2 ba ca qm0 1))]) [1] rfl
  have hDc := hD.sub (ws' := [(oa, .inr (4, ov_ k1 k2 ba ca qm0 1))]) [1] (by decide) rfl
  have hFc := va_free (wc := [(oa, .inr (4, ov_ k1 k2 ba ca qm0 1))]) hD hS hA [1] rfl
  refine va_callv (va_runV (As := []) (rest := []) ⟨hx, hb, hml, hown, hts⟩ (kX4_refresh1 l g cI cJ cZ s.heap.size oa k1 k2 ba ca qm0) (cwV 0 hts gX5_relate_X4_refresh rfl rfl rfl (by decide +kernel) ⟨Nat.le_of_ble_eq_true rfl, Nat.le_of_ble_eq_true rfl⟩) (pv_ hK hPc hDc (va_recv hK hPc (ci := 4) (q0 := 0) rfl rfl)) rfl rfl hl.1 rfl (lv_room (Nat.le_of_ble_eq_true rfl)) dX5_relate_4 ⟨Nat.zero_le _, Nat.zero_le _⟩) hS (fun q _ h => hFc q h) hFc (fun u t H1 locs ht hvm hw hB hz1 hk1 hS => ?_)
  obtain ⟨hP1, hK1, hD1⟩ := hB
  rw [ht] at hP1
  obtain ⟨hP, hD⟩ := va_join (wr := [(ra0, .inr (5, sr_ f1 f2 oa)), (qm0, .inl (cI, 9, .inl mx))]) (w1 := [(oa, .inr (4, ov_ k1 k2 ba ca qm0 1))]) hP hD [1] [0, 2] rfl rfl (by decide) (by decide) hk1 hFc hP1 hD1
  clear hPc hDc hFc hP1 hD1 hK1 hk1 hz1 hvm ht
  generalize H1 = H at hP hS ⊢
  have hP : va_P g vwCl [(ra0, .inr (5, sr_ f1 f2 oa)), (qm0, .inl (cI, 9, .inl mx)), (oa, .inr (4, ov_ k1 k2 ba ca qm0 1))] H := hP
  have hD : va_D A [(ra0, .inr (5, sr_ f1 f2 oa)), (qm0, .inl (cI, 9, .inl mx)), (oa, .inr (4, ov_ k1 k2 ba ca qm0 1))] := hD
  refine lv_iconst (v := 0) hx hb dX5_relate_7 (by decide) ?_
  refine lv_istore_n (lv' := [(1, .int 0), (0, .ref ra0)]) hx hb dX5_relate_8 rfl hl (by decide) rfl (fun ls hl => ?_)
  refine lv_iconst (v := 0) hx hb dX5_relate_9 (by decide) ?_
  refine lv_istore_n (lv' := [(2, .int 0), (1, .int 0), (0, .ref ra0)]) hx hb dX5_relate_10 rfl hl (by decide) rfl (fun ls hl => ?_)
  refine lpW (σ := Nat) (fun a => 3 - a) (fun a => 0) (fun a => 0) (fun a H locs ls => (a ≤ 3) ∧ va_P g vwCl [(ra0, .inr (5, sr_ f1 f2 oa)), (qm0, .inl (cI, 9, .inl mx)), (oa, .inr (4, ov_ k1 k2 ba ca qm0 1))] H ∧ va_D A [(ra0, .inr (5, sr_ f1 f2 oa)), (qm0, .inl (cI, 9, .inl mx)), (oa, .inr (4, ov_ k1 k2 ba ca qm0 1))] ∧ va_S A s.heap H locs ∧ lv_has ls 4 [(2, .int (nI a)), (1, .int (rel_ mx (3 * a))), (0, .ref ra0)]) (fun x ih H locs ls hI => ?_) 0 rfl rfl ⟨Nat.zero_le _, hP, hD, hS, (lv_sub hl [0, 1, 2] rfl)⟩
  obtain ⟨a, rfl⟩ : ∃ z, z = x := ⟨_, rfl⟩
  obtain ⟨hi, hP, hD, hS, hl⟩ := hI
  have hP : va_P g vwCl [(ra0, .inr (5, sr_ f1 f2 oa)), (qm0, .inl (cI, 9, .inl mx)), (oa, .inr (4, ov_ k1 k2 ba ca qm0 1))] H := hP
  have hD : va_D A [(ra0, .inr (5, sr_ f1 f2 oa)), (qm0, .inl (cI, 9, .inl mx)), (oa, .inr (4, ov_ k1 k2 ba ca qm0 1))] := hD
  have hl : lv_has ls 4 [(2, .int (nI a)), (1, .int (rel_ mx (3 * a))), (0, .ref ra0)] := hl
  refine lv_iload_n hx hb dX5_relate_11 rfl (lv_at hl 0 rfl) ?_
  refine lv_iconst (v := 2) hx hb dX5_relate_12 (by decide) ?_
  refine lv_icmp_gt (tgt := 51) hx hb dX5_relate_13 (by decide) (fun c1 => ?_) (fun c1 => ?_)
  · have e1 : a = 3 := by have := (nI_ltI (a := 2) (by decide) (by omega)).mp c1; omega
    refine lv_iload_n hx hb dX5_relate_51 rfl (lv_at hl 1 rfl) ?_
    have hP9 := hP.sub (ws' := [(ra0, .inr (5, sr_ f1 f2 oa)), (oa, .inr (4, ov_ k1 k2 ba ca qm0 1)), (qm0, .inl (cI, 9, .inl mx))]) [0, 2, 1] rfl
    have hD9 := hD.sub (ws' := [(ra0, .inr (5, sr_ f1 f2 oa)), (oa, .inr (4, ov_ k1 k2 ba ca qm0 1)), (qm0, .inl (cI, 9, .inl mx))]) [0, 2, 1] (by decide) rfl
    exact W.iret (v := (rel_ mx (3 * a))) hx hb hr (fun t ht hW => ⟨⟨rel_ mx (3 * a), (), rfl, by rw [e1], by rw [ht]; exact hP9, va_K.moved hW.alike hK, hD9⟩, hS.F ht⟩) hS.2.2 dX5_relate_52
  · have e1 : a < 3 := by rcases Nat.lt_or_ge a 3 with q | q; (· exact q); exact absurd ((nI_ltI (a := 2) (by decide) (by omega)).mpr (by omega)) c1
    have ihO := ih
    refine lv_iconst (v := 0) hx hb dX5_relate_16 (by decide) ?_
    refine lv_istore_n (lv' := [(3, .int 0), (2, .int (nI a)), (1, .int (rel_ mx (3 * a))), (0, .ref ra0)]) hx hb dX5_relate_17 rfl hl (by decide) rfl (fun ls hl => ?_)
    have hl : lv_has ls 4 [(3, .int 0), (2, .int (nI a)), (1, .int (rel_ mx (3 * a + 0))), (0, .ref ra0)] := hl
    refine lpW (σ := Nat) (fun b => 3 - b) (fun b => 0) (fun b => 0) (fun b H locs ls => (b ≤ 3) ∧ va_P g vwCl [(ra0, .inr (5, sr_ f1 f2 oa)), (qm0, .inl (cI, 9, .inl mx)), (oa, .inr (4, ov_ k1 k2 ba ca qm0 1))] H ∧ va_D A [(ra0, .inr (5, sr_ f1 f2 oa)), (qm0, .inl (cI, 9, .inl mx)), (oa, .inr (4, ov_ k1 k2 ba ca qm0 1))] ∧ va_S A s.heap H locs ∧ lv_has ls 4 [(3, .int (nI b)), (2, .int (nI a)), (1, .int (rel_ mx (3 * a + b))), (0, .ref ra0)]) (fun x ih H locs ls hI => ?_) 0 rfl rfl ⟨Nat.zero_le _, hP, hD, hS, (lv_sub hl [0, 1, 2, 3] rfl)⟩
    obtain ⟨b, rfl⟩ : ∃ z, z = x := ⟨_, rfl⟩
    obtain ⟨hj, hP, hD, hS, hl⟩ := hI
    have hP : va_P g vwCl [(ra0, .inr (5, sr_ f1 f2 oa)), (qm0, .inl (cI, 9, .inl mx)), (oa, .inr (4, ov_ k1 k2 ba ca qm0 1))] H := hP
    have hD : va_D A [(ra0, .inr (5, sr_ f1 f2 oa)), (qm0, .inl (cI, 9, .inl mx)), (oa, .inr (4, ov_ k1 k2 ba ca qm0 1))] := hD
    have hl : lv_has ls 4 [(3, .int (nI b)), (2, .int (nI a)), (1, .int (rel_ mx (3 * a + b))), (0, .ref ra0)] := hl
    refine lv_iload_n hx hb dX5_relate_18 rfl (lv_at hl 0 rfl) ?_
    refine lv_iconst (v := 2) hx hb dX5_relate_19 (by decide) ?_
    refine lv_icmp_gt (tgt := 45) hx hb dX5_relate_20 (by decide) (fun c2 => ?_) (fun c2 => ?_)
    · have e2 : b = 3 := by have := (nI_ltI (a := 2) (by decide) (by omega)).mp c2; omega
      have e3 : 3 * a + b = 3 * (a + 1) := by omega
      rw [e3] at hl
      have hl : lv_has ls 4 [(3, .int (nI b)), (2, .int (nI a)), (1, .int (rel_ mx (3 * (a + 1)))), (0, .ref ra0)] := hl
      refine lv_iinc (v := (nI (a + 1))) (lv' := [(2, .int (nI (a + 1))), (3, .int (nI b)), (1, .int (rel_ mx (3 * (a + 1)))), (0, .ref ra0)]) hx hb dX5_relate_45 hl (k := 1) rfl (nI_1 a) (by decide) rfl (fun ls hl => ?_)
      refine lv_goto (tgt := 11) hx hb dX5_relate_48 (by decide) ?_
      have ih := ihO
      exact ih (a + 1) (by show 3 - (a + 1) < 3 - a; omega) H locs ls ⟨by omega, hP, hD, hS, (lv_sub hl [0, 2, 3] rfl)⟩
    · have e2 : b < 3 := by rcases Nat.lt_or_ge b 3 with q | q; (· exact q); exact absurd ((nI_ltI (a := 2) (by decide) (by omega)).mpr (by omega)) c2
      refine lv_iconst (v := 4) hx hb dX5_relate_23 (by decide) ?_
      refine lv_iload_n hx hb dX5_relate_24 rfl (lv_at hl 2 rfl) ?_
      refine lv_imul hx hb dX5_relate_25 ?_
      refine lv_aload_n hx hb dX5_relate_26 rfl (lv_at hl 3 rfl) ?_
      refine va_get (D := g) (ci := 5) (v := .ref oa) (C := RX5) (T := TX5) (N := 3) hx hb hts hiX5 hown hK hP 0 rfl rfl 2 (by decide) (hts (.fieldLink RX5 24 "ShapeRelator" "overlay" "LShapeRelator$Overlay;") (List.mem_of_getElem? (i := 1) rfl)) (fun _ h9 => h9) rfl dX5_relate_27 ?_
      refine lv_iload_n hx hb dX5_relate_30 rfl (lv_at hl 1 rfl) ?_
      refine lv_iload_n hx hb dX5_relate_31 rfl (lv_at hl 0 rfl) ?_
      have hPc := hP.sub (ws' := [(oa, .inr (4, ov_ k1 k2 ba ca qm0 1)), (qm0, .inl (cI, 9, .inl mx))]) [2, 1] rfl
      have hDc := hD.sub (ws' := [(oa, .inr (4, ov_ k1 k2 ba ca qm0 1)), (qm0, .inl (cI, 9, .inl mx))]) [2, 1] (by decide) rfl
      have hFc := va_free (wc := [(oa, .inr (4, ov_ k1 k2 ba ca qm0 1)), (qm0, .inl (cI, 9, .inl mx))]) hD hS hA [2, 1] rfl
      refine va_calli (va_runV (As := [.int (nI a), .int (nI b)]) (rest := [.int (4 * (rel_ mx (3 * a + b)))]) ⟨hx, hb, hml, hown, hts⟩ (kX4_at l g cI cJ cZ H.size oa k1 k2 ba ca qm0 1 mx (nI a) (nI b) (t3_n e1) (t3_n e2)) (cwV 2 hts gX5_relate_X4_at rfl rfl rfl (by decide +kernel) ⟨Nat.le_of_ble_eq_true rfl, Nat.le_of_ble_eq_true rfl⟩) (pv_ hK hPc hDc (va_recv hK hPc (ci := 4) (q0 := 0) rfl rfl)) rfl rfl hl.1 rfl (lv_room (Nat.le_of_ble_eq_true rfl)) dX5_relate_32 ⟨Nat.zero_le _, Nat.zero_le _⟩) hS (fun q _ h => hFc q h) hFc (fun r1 u t H1 locs ht hvm hw1 hB hz1 hk1 hS => ?_)
      obtain ⟨hP1, hK1, hD1⟩ := hB
      rw [ht] at hP1
      obtain ⟨hP, hD⟩ := va_join (wr := [(ra0, .inr (5, sr_ f1 f2 oa))]) (w1 := [(oa, .inr (4, ov_ k1 k2 ba ca qm0 1)), (qm0, .inl (cI, 9, .inl mx))]) hP hD [2, 1] [0] rfl rfl (by decide) (by decide) hk1 hFc hP1 hD1
      clear hPc hDc hFc hP1 hD1 hK1 hk1 hz1 hvm ht
      generalize H1 = H at hP hS ⊢
      have hP : va_P g vwCl [(ra0, .inr (5, sr_ f1 f2 oa)), (oa, .inr (4, ov_ k1 k2 ba ca qm0 1)), (qm0, .inl (cI, 9, .inl mx))] H := hP
      have hD : va_D A [(ra0, .inr (5, sr_ f1 f2 oa)), (oa, .inr (4, ov_ k1 k2 ba ca qm0 1)), (qm0, .inl (cI, 9, .inl mx))] := hD
      rw [mt_n e1 e2] at hw1
      subst hw1
      refine lv_iadd hx hb dX5_relate_35 ?_
      refine lv_iconst (v := 1) hx hb dX5_relate_36 (by decide) ?_
      refine lv_iadd hx hb dX5_relate_37 ?_
      refine tpi_ (y := (rel_ mx (3 * a + (b + 1)))) rfl ?_
      refine lv_istore_n (lv' := [(1, .int (rel_ mx (3 * a + (b + 1)))), (3, .int (nI b)), (2, .int (nI a)), (0, .ref ra0)]) hx hb dX5_relate_38 rfl hl (by decide) rfl (fun ls hl => ?_)
      refine lv_iinc (v := (nI (b + 1))) (lv' := [(3, .int (nI (b + 1))), (1, .int (rel_ mx (3 * a + (b + 1)))), (2, .int (nI a)), (0, .ref ra0)]) hx hb dX5_relate_39 hl (k := 1) rfl (nI_1 b) (by decide) rfl (fun ls hl => ?_)
      refine lv_goto (tgt := 18) hx hb dX5_relate_42 (by decide) ?_
      exact ih (b + 1) (by show 3 - (b + 1) < 3 - b; omega) H locs ls ⟨by omega, (hP.sub [0, 2, 1] rfl), (hD.sub [0, 2, 1] (by decide) rfl), hS, (lv_sub hl [0, 2, 1, 3] rfl)⟩

theorem ikX5_entry1_X5 : ∀ w ∈ wsX50, w ∈ wsX5_entry := by decide +kernel
set_option maxHeartbeats 1000000 in
set_option maxRecDepth 100000 in
theorem kX5_entry1 (l : Launch) (g : va_G) (cI cJ cZ : ClassId) (sz : Nat) (hlt : l.stackTraces = false) (ra0 : Nat) (f1 : Nat) (f2 : Nat) (oa : Nat) (k1 : Nat) (k2 : Nat) (ba : Nat) (ca : Nat) (qm0 : Nat) (mx : Nat → Int32) (o1 : Int32) (o2 : Int32)  : vx_Met l yX5_entry wsX5_entry ({ frames := 6, cells := 1, slots := 6, locals := 82 }) (pce_ g cI cJ cZ [.ref ra0, .int o1, .int o2] [(ra0, .inr (5, sr_ f1 f2 oa)), (oa, .inr (4, ov_ k1 k2 ba ca qm0 1)), (qm0, .inl (cI, 9, .inl mx))] sz) (va_Qi (fun (r : Int32) (_ : Unit) => (¬ wi_ o1 0 2 = 0 ∧ ¬ wi_ o2 0 2 = 0) ∧ r = mat_ mx o1 o2) (fun (_ : Unit) t => wd_ g cI cJ cZ (va_A [(ra0, .inr (5, sr_ f1 f2 oa)), (oa, .inr (4, ov_ k1 k2 ba ca qm0 1)), (qm0, .inl (cI, 9, .inl mx))] sz) [(ra0, .inr (5, sr_ f1 f2 oa)), (oa, .inr (4, ov_ k1 k2 ba ca qm0 1)), (qm0, .inl (cI, 9, .inl mx))] t) (va_A [(ra0, .inr (5, sr_ f1 f2 oa)), (oa, .inr (4, ov_ k1 k2 ba ca qm0 1)), (qm0, .inl (cI, 9, .inl mx))] sz)) (vx_X (fun _ : Unit => True) (fun E _ t => (E = "java/lang/IndexOutOfBoundsException" ∧ (wi_ o1 0 2 = 0 ∨ wi_ o2 0 2 = 0)) ∧ wd_ g cI cJ cZ (va_A [(ra0, .inr (5, sr_ f1 f2 oa)), (oa, .inr (4, ov_ k1 k2 ba ca qm0 1)), (qm0, .inl (cI, 9, .inl mx))] sz) [(ra0, .inr (5, sr_ f1 f2 oa)), (oa, .inr (4, ov_ k1 k2 ba ca qm0 1)), (qm0, .inl (cI, 9, .inl mx))] t) (va_A [(ra0, .inr (5, sr_ f1 f2 oa)), (oa, .inr (4, ov_ k1 k2 ba ca qm0 1)), (qm0, .inl (cI, 9, .inl mx))] sz)) (1) (6) (va_A [(ra0, .inr (5, sr_ f1 f2 oa)), (oa, .inr (4, ov_ k1 k2 ba ca qm0 1)), (qm0, .inl (cI, 9, .inl mx))] sz) := by
  refine vx_ofW (cc := cX5_entry) (maxL := 3) (ret := (some .int)) (by decide) rfl ?_
  intro p e s m args below meth c s₁ B hml hnx hv
  obtain ⟨rfl, ⟨hsz, hP, hK, hD0⟩, hev⟩ := hv
  have hx := B.exec
  have hb := B.bytes
  have hr := B.returns
  have hts := atoms_spec (ws := wsX5_entry) B.pre
  have hown : s.vm.findClass RX5 = some m.cls := findClass_of_methodNamed B.named
  have hlocks := B.notSynchronized
  subst hsz
  have hD := hD0.self (sz := s.heap.size)
  generalize hAe : va_A [(ra0, .inr (5, sr_ f1 f2 oa)), (oa, .inr (4, ov_ k1 k2 ba ca qm0 1)), (qm0, .inl (cI, 9, .inl mx))] s.heap.size = A at hD hev ⊢
  have hA : ∀ q : Nat, s.heap.size ≤ q → A q := fun q h => by rw [← hAe]; exact Or.inr h
  have hS : va_S A s.heap s.heap [] := va_S.rf
  have hP : va_P g vwCl [(ra0, .inr (5, sr_ f1 f2 oa)), (oa, .inr (4, ov_ k1 k2 ba ca qm0 1)), (qm0, .inl (cI, 9, .inl mx))] s.heap := hP
  have hl := lv_entry ([.ref ra0, .int o1, .int o2]) (n := 3) (Nat.le_of_ble_eq_true rfl)
  rw [lg_entry_eq]
  generalize (lg_sl ([.ref ra0, .int o1, .int o2]) ++ List.replicate (3 - (lg_sl ([.ref ra0, .int o1, .int o2])).length) Slot.unset).toArray = ls at hl ⊢
  have hl : lv_has ls 3 [(0, .ref ra0), (1, .int o1), (2, .int o2)] := hl
  have hH0 : s.heap = s.heap := rfl
  have hiX5 := ikX5_entry1_X5
  refine lv_iload_n hx hb dX5_entry_0 rfl (lv_at hl 1 rfl) ?_
  refine lv_if_lt (tgt := 18) hx hb dX5_entry_1 (by decide) (fun c1 => ?_) (fun c1 => ?_)
  · have hP9 := hP.sub (ws' := [(ra0, .inr (5, sr_ f1 f2 oa)), (oa, .inr (4, ov_ k1 k2 ba ca qm0 1)), (qm0, .inl (cI, 9, .inl mx))]) [0, 1, 2] rfl
    have hD9 := hD.sub (ws' := [(ra0, .inr (5, sr_ f1 f2 oa)), (oa, .inr (4, ov_ k1 k2 ba ca qm0 1)), (qm0, .inl (cI, 9, .inl mx))]) [0, 1, 2] (by decide) rfl
    obtain ⟨sa, hsa⟩ := hev.1.2.1 (87, "no such entry") (List.mem_of_getElem? (i := 6) rfl)
    exact vx_throwS (A := A) (names := nm2_) (cls := "java/lang/IndexOutOfBoundsException") hx hb hlt hown fi1_ fin_ (hts (.classLink RX5 85 "java/lang/IndexOutOfBoundsException") (List.mem_of_getElem? (i := 1) rfl)) (hts (.initialized "java/lang/IndexOutOfBoundsException") (List.mem_of_getElem? (i := 2) rfl)) hsa (vx_hat (B := evB_) (fun w hw => hts w (List.mem_cons_of_mem _ (List.mem_append_right _ hw))) nb1_ (evB_u hev.1)) go1_ hev.2.1 hev.2.2 hS (hl.1.trans hml.symm) dX5_entry_18 dX5_entry_21 dX5_entry_22 dX5_entry_24 dX5_entry_27 (fun x hx9 => (hnx x hx9).elim) (Nat.le_of_ble_eq_true rfl) (Nat.le_of_ble_eq_true rfl) (by show 0 + 1 ≤ 1; omega) (by show 0 + 6 ≤ 6; omega) hlocks (fun t hvm hz hq => ⟨(), trivial, ⟨⟨rfl, Or.inl (wi1_ c1).symm⟩, vp_k hP9 hq, va_K.moved hvm hK, hD9⟩, vf_k hS hz hq⟩) hS.2.2 (by show 0 + 1 ≤ 1; omega) (by show 0 + 6 ≤ 6; omega)
  · refine lv_iload_n hx hb dX5_entry_4 rfl (lv_at hl 1 rfl) ?_
    refine lv_iconst (v := 2) hx hb dX5_entry_5 (by decide) ?_
    refine lv_icmp_gt (tgt := 18) hx hb dX5_entry_6 (by decide) (fun c2 => ?_) (fun c2 => ?_)
    · have hP9 := hP.sub (ws' := [(ra0, .inr (5, sr_ f1 f2 oa)), (oa, .inr (4, ov_ k1 k2 ba ca qm0 1)), (qm0, .inl (cI, 9, .inl mx))]) [0, 1, 2] rfl
      have hD9 := hD.sub (ws' := [(ra0, .inr (5, sr_ f1 f2 oa)), (oa, .inr (4, ov_ k1 k2 ba ca qm0 1)), (qm0, .inl (cI, 9, .inl mx))]) [0, 1, 2] (by decide) rfl
      obtain ⟨sa, hsa⟩ := hev.1.2.1 (87, "no such entry") (List.mem_of_getElem? (i := 6) rfl)
      exact vx_throwS (A := A) (names := nm2_) (cls := "java/lang/IndexOutOfBoundsException") hx hb hlt hown fi1_ fin_ (hts (.classLink RX5 85 "java/lang/IndexOutOfBoundsException") (List.mem_of_getElem? (i := 1) rfl)) (hts (.initialized "java/lang/IndexOutOfBoundsException") (List.mem_of_getElem? (i := 2) rfl)) hsa (vx_hat (B := evB_) (fun w hw => hts w (List.mem_cons_of_mem _ (List.mem_append_right _ hw))) nb1_ (evB_u hev.1)) go1_ hev.2.1 hev.2.2 hS (hl.1.trans hml.symm) dX5_entry_18 dX5_entry_21 dX5_entry_22 dX5_entry_24 dX5_entry_27 (fun x hx9 => (hnx x hx9).elim) (Nat.le_of_ble_eq_true rfl) (Nat.le_of_ble_eq_true rfl) (by show 0 + 1 ≤ 1; omega) (by show 0 + 6 ≤ 6; omega) hlocks (fun t hvm hz hq => ⟨(), trivial, ⟨⟨rfl, Or.inl (wi2_ c2).symm⟩, vp_k hP9 hq, va_K.moved hvm hK, hD9⟩, vf_k hS hz hq⟩) hS.2.2 (by show 0 + 1 ≤ 1; omega) (by show 0 + 6 ≤ 6; omega)
    · refine lv_iload_n hx hb dX5_entry_9 rfl (lv_at hl 2 rfl) ?_
      refine lv_if_lt (tgt := 18) hx hb dX5_entry_10 (by decide) (fun c3 => ?_) (fun c3 => ?_)
      · have hP9 := hP.sub (ws' := [(ra0, .inr (5, sr_ f1 f2 oa)), (oa, .inr (4, ov_ k1 k2 ba ca qm0 1)), (qm0, .inl (cI, 9, .inl mx))]) [0, 1, 2] rfl
        have hD9 := hD.sub (ws' := [(ra0, .inr (5, sr_ f1 f2 oa)), (oa, .inr (4, ov_ k1 k2 ba ca qm0 1)), (qm0, .inl (cI, 9, .inl mx))]) [0, 1, 2] (by decide) rfl
        obtain ⟨sa, hsa⟩ := hev.1.2.1 (87, "no such entry") (List.mem_of_getElem? (i := 6) rfl)
        exact vx_throwS (A := A) (names := nm2_) (cls := "java/lang/IndexOutOfBoundsException") hx hb hlt hown fi1_ fin_ (hts (.classLink RX5 85 "java/lang/IndexOutOfBoundsException") (List.mem_of_getElem? (i := 1) rfl)) (hts (.initialized "java/lang/IndexOutOfBoundsException") (List.mem_of_getElem? (i := 2) rfl)) hsa (vx_hat (B := evB_) (fun w hw => hts w (List.mem_cons_of_mem _ (List.mem_append_right _ hw))) nb1_ (evB_u hev.1)) go1_ hev.2.1 hev.2.2 hS (hl.1.trans hml.symm) dX5_entry_18 dX5_entry_21 dX5_entry_22 dX5_entry_24 dX5_entry_27 (fun x hx9 => (hnx x hx9).elim) (Nat.le_of_ble_eq_true rfl) (Nat.le_of_ble_eq_true rfl) (by show 0 + 1 ≤ 1; omega) (by show 0 + 6 ≤ 6; omega) hlocks (fun t hvm hz hq => ⟨(), trivial, ⟨⟨rfl, Or.inr (wi1_ c3).symm⟩, vp_k hP9 hq, va_K.moved hvm hK, hD9⟩, vf_k hS hz hq⟩) hS.2.2 (by show 0 + 1 ≤ 1; omega) (by show 0 + 6 ≤ 6; omega)
      · refine lv_iload_n hx hb dX5_entry_13 rfl (lv_at hl 2 rfl) ?_
        refine lv_iconst (v := 2) hx hb dX5_entry_14 (by decide) ?_
        refine lv_icmp_le (tgt := 28) hx hb dX5_entry_15 (by decide) (fun c4 => ?_) (fun c4 => ?_)
        · have n1 : ¬ wi_ o1 0 2 = 0 := by rw [← wi3_ c1 c2]; decide
          have n2 : ¬ wi_ o2 0 2 = 0 := by rw [← wi3_ c3 (Int32.not_lt.mpr c4)]; decide
          refine lv_aload_n hx hb dX5_entry_28 rfl (lv_at hl 0 rfl) ?_
          refine va_get (D := g) (ci := 5) (v := .ref oa) (C := RX5) (T := TX5) (N := 3) hx hb hts hiX5 hown hK hP 0 rfl rfl 2 (by decide) (hts (.fieldLink RX5 24 "ShapeRelator" "overlay" "LShapeRelator$Overlay;") (List.mem_of_getElem? (i := 3) rfl)) (fun _ h9 => h9) rfl dX5_entry_29 ?_
          have hPc := hP.sub (ws' := [(oa, .inr (4, ov_ k1 k2 ba ca qm0 1))]) [1] rfl
          have hDc := hD.sub (ws' := [(oa, .inr (4, ov_ k1 k2 ba ca qm0 1))]) [1] (by decide) rfl
          have hFc := va_free (wc := [(oa, .inr (4, ov_ k1 k2 ba ca qm0 1))]) hD hS hA [1] rfl
          refine va_callv (va_runV (As := []) (rest := []) ⟨hx, hb, hml, hown, hts⟩ (kX4_refresh1 l g cI cJ cZ s.heap.size oa k1 k2 ba ca qm0) (cwV 0 hts gX5_entry_X4_refresh rfl rfl rfl (by decide +kernel) ⟨Nat.le_of_ble_eq_true rfl, Nat.le_of_ble_eq_true rfl⟩) (pv_ hK hPc hDc (va_recv hK hPc (ci := 4) (q0 := 0) rfl rfl)) rfl rfl hl.1 rfl (lv_room (Nat.le_of_ble_eq_true rfl)) dX5_entry_32 ⟨Nat.zero_le _, Nat.zero_le _⟩) hS (fun q _ h => hFc q h) hFc (fun u t H1 locs ht hvm hw hB hz1 hk1 hS => ?_)
          obtain ⟨hP1, hK1, hD1⟩ := hB
          rw [ht] at hP1
          obtain ⟨hP, hD⟩ := va_join (wr := [(ra0, .inr (5, sr_ f1 f2 oa)), (qm0, .inl (cI, 9, .inl mx))]) (w1 := [(oa, .inr (4, ov_ k1 k2 ba ca qm0 1))]) hP hD [1] [0, 2] rfl rfl (by decide) (by decide) hk1 hFc hP1 hD1
          clear hPc hDc hFc hP1 hD1 hK1 hk1 hz1 hvm ht
          generalize H1 = H at hP hS ⊢
          have hP : va_P g vwCl [(ra0, .inr (5, sr_ f1 f2 oa)), (qm0, .inl (cI, 9, .inl mx)), (oa, .inr (4, ov_ k1 k2 ba ca qm0 1))] H := hP
          have hD : va_D A [(ra0, .inr (5, sr_ f1 f2 oa)), (qm0, .inl (cI, 9, .inl mx)), (oa, .inr (4, ov_ k1 k2 ba ca qm0 1))] := hD
          refine lv_aload_n hx hb dX5_entry_35 rfl (lv_at hl 0 rfl) ?_
          refine va_get (D := g) (ci := 5) (v := .ref oa) (C := RX5) (T := TX5) (N := 3) hx hb hts hiX5 hown hK hP 0 rfl rfl 2 (by decide) (hts (.fieldLink RX5 24 "ShapeRelator" "overlay" "LShapeRelator$Overlay;") (List.mem_of_getElem? (i := 3) rfl)) (fun _ h9 => h9) rfl dX5_entry_36 ?_
          refine lv_iload_n hx hb dX5_entry_39 rfl (lv_at hl 1 rfl) ?_
          refine lv_iload_n hx hb dX5_entry_40 rfl (lv_at hl 2 rfl) ?_
          have hPc := hP.sub (ws' := [(oa, .inr (4, ov_ k1 k2 ba ca qm0 1)), (qm0, .inl (cI, 9, .inl mx))]) [2, 1] rfl
          have hDc := hD.sub (ws' := [(oa, .inr (4, ov_ k1 k2 ba ca qm0 1)), (qm0, .inl (cI, 9, .inl mx))]) [2, 1] (by decide) rfl
          have hFc := va_free (wc := [(oa, .inr (4, ov_ k1 k2 ba ca qm0 1)), (qm0, .inl (cI, 9, .inl mx))]) hD hS hA [2, 1] rfl
          refine va_calli (va_runV (As := [.int o1, .int o2]) (rest := []) ⟨hx, hb, hml, hown, hts⟩ (kX4_at l g cI cJ cZ H.size oa k1 k2 ba ca qm0 1 mx o1 o2 (t3_w n1) (t3_w n2)) (cwV 2 hts gX5_entry_X4_at rfl rfl rfl (by decide +kernel) ⟨Nat.le_of_ble_eq_true rfl, Nat.le_of_ble_eq_true rfl⟩) (pv_ hK hPc hDc (va_recv hK hPc (ci := 4) (q0 := 0) rfl rfl)) rfl rfl hl.1 rfl (lv_room (Nat.le_of_ble_eq_true rfl)) dX5_entry_41 ⟨Nat.zero_le _, Nat.zero_le _⟩) hS (fun q _ h => hFc q h) hFc (fun r1 u t H1 locs ht hvm hw1 hB hz1 hk1 hS => ?_)
          obtain ⟨hP1, hK1, hD1⟩ := hB
          rw [ht] at hP1
          obtain ⟨hP, hD⟩ := va_join (wr := [(ra0, .inr (5, sr_ f1 f2 oa))]) (w1 := [(oa, .inr (4, ov_ k1 k2 ba ca qm0 1)), (qm0, .inl (cI, 9, .inl mx))]) hP hD [2, 1] [0] rfl rfl (by decide) (by decide) hk1 hFc hP1 hD1
          clear hPc hDc hFc hP1 hD1 hK1 hk1 hz1 hvm ht
          generalize H1 = H at hP hS ⊢
          have hP : va_P g vwCl [(ra0, .inr (5, sr_ f1 f2 oa)), (oa, .inr (4, ov_ k1 k2 ba ca qm0 1)), (qm0, .inl (cI, 9, .inl mx))] H := hP
          have hD : va_D A [(ra0, .inr (5, sr_ f1 f2 oa)), (oa, .inr (4, ov_ k1 k2 ba ca qm0 1)), (qm0, .inl (cI, 9, .inl mx))] := hD
          refine W.widen (k := 1) (n := 6) (by omega) (by omega) ?_
          have hP9 := hP.sub (ws' := [(ra0, .inr (5, sr_ f1 f2 oa)), (oa, .inr (4, ov_ k1 k2 ba ca qm0 1)), (qm0, .inl (cI, 9, .inl mx))]) [0, 1, 2] rfl
          have hD9 := hD.sub (ws' := [(ra0, .inr (5, sr_ f1 f2 oa)), (oa, .inr (4, ov_ k1 k2 ba ca qm0 1)), (qm0, .inl (cI, 9, .inl mx))]) [0, 1, 2] (by decide) rfl
          refine vx_ret ?_
          exact W.iret (v := r1) hx hb hr (fun t ht hW => ⟨⟨r1, (), rfl, ⟨⟨n1, n2⟩, hw1⟩, by rw [ht]; exact hP9, va_K.moved hW.alike hK, hD9⟩, hS.F ht⟩) hS.2.2 dX5_entry_44
        · have hP9 := hP.sub (ws' := [(ra0, .inr (5, sr_ f1 f2 oa)), (oa, .inr (4, ov_ k1 k2 ba ca qm0 1)), (qm0, .inl (cI, 9, .inl mx))]) [0, 1, 2] rfl
          have hD9 := hD.sub (ws' := [(ra0, .inr (5, sr_ f1 f2 oa)), (oa, .inr (4, ov_ k1 k2 ba ca qm0 1)), (qm0, .inl (cI, 9, .inl mx))]) [0, 1, 2] (by decide) rfl
          obtain ⟨sa, hsa⟩ := hev.1.2.1 (87, "no such entry") (List.mem_of_getElem? (i := 6) rfl)
          exact vx_throwS (A := A) (names := nm2_) (cls := "java/lang/IndexOutOfBoundsException") hx hb hlt hown fi1_ fin_ (hts (.classLink RX5 85 "java/lang/IndexOutOfBoundsException") (List.mem_of_getElem? (i := 1) rfl)) (hts (.initialized "java/lang/IndexOutOfBoundsException") (List.mem_of_getElem? (i := 2) rfl)) hsa (vx_hat (B := evB_) (fun w hw => hts w (List.mem_cons_of_mem _ (List.mem_append_right _ hw))) nb1_ (evB_u hev.1)) go1_ hev.2.1 hev.2.2 hS (hl.1.trans hml.symm) dX5_entry_18 dX5_entry_21 dX5_entry_22 dX5_entry_24 dX5_entry_27 (fun x hx9 => (hnx x hx9).elim) (Nat.le_of_ble_eq_true rfl) (Nat.le_of_ble_eq_true rfl) (by show 0 + 1 ≤ 1; omega) (by show 0 + 6 ≤ 6; omega) hlocks (fun t hvm hz hq => ⟨(), trivial, ⟨⟨rfl, Or.inr (wi2_ (Int32.not_le.mp c4)).symm⟩, vp_k hP9 hq, va_K.moved hvm hK, hD9⟩, vf_k hS hz hq⟩) hS.2.2 (by show 0 + 1 ≤ 1; omega) (by show 0 + 6 ≤ 6; omega)

theorem ikX5_dimension10_X5 : ∀ w ∈ wsX50, w ∈ wsX5_dimension := by decide +kernel
set_option maxHeartbeats 1000000 in
set_option maxRecDepth 100000 in
theorem kX5_dimension10 (l : Launch) (g : va_G) (cI cJ cZ : ClassId) (sz : Nat) (hlt : l.stackTraces = false) (ra0 : Nat) (f1 : Nat) (f2 : Nat) (oa : Nat) (k1 : Nat) (k2 : Nat) (ba : Nat) (ca : Nat) (qm0 : Nat) (mx : Nat → Int32) (hne : ¬ f1 = f2) : vx_Met l yX5_dimension wsX5_dimension ({ frames := 7, cells := 1, slots := 6, locals := 103 }) (pce_ g cI cJ cZ [.ref ra0, .int 0] [(ra0, .inr (5, sr_ f1 f2 oa)), (oa, .inr (4, ov_ k1 k2 ba ca qm0 1)), (qm0, .inl (cI, 9, .inl mx))] sz) (va_Qi (fun (r : Int32) (_ : Unit) => r = mx_ (dif_ mx 0) (dif_ mx 1)) (fun (_ : Unit) t => wd_ g cI cJ cZ (va_A [(ra0, .inr (5, sr_ f1 f2 oa)), (oa, .inr (4, ov_ k1 k2 ba ca qm0 1)), (qm0, .inl (cI, 9, .inl mx))] sz) [(ra0, .inr (5, sr_ f1 f2 oa)), (oa, .inr (4, ov_ k1 k2 ba ca qm0 1)), (qm0, .inl (cI, 9, .inl mx))] t) (va_A [(ra0, .inr (5, sr_ f1 f2 oa)), (oa, .inr (4, ov_ k1 k2 ba ca qm0 1)), (qm0, .inl (cI, 9, .inl mx))] sz)) (vx_X (fun _ : Unit => True) (fun E _ t => (False) ∧ wd_ g cI cJ cZ (va_A [(ra0, .inr (5, sr_ f1 f2 oa)), (oa, .inr (4, ov_ k1 k2 ba ca qm0 1)), (qm0, .inl (cI, 9, .inl mx))] sz) [(ra0, .inr (5, sr_ f1 f2 oa)), (oa, .inr (4, ov_ k1 k2 ba ca qm0 1)), (qm0, .inl (cI, 9, .inl mx))] t) (va_A [(ra0, .inr (5, sr_ f1 f2 oa)), (oa, .inr (4, ov_ k1 k2 ba ca qm0 1)), (qm0, .inl (cI, 9, .inl mx))] sz)) (1) (6) (va_A [(ra0, .inr (5, sr_ f1 f2 oa)), (oa, .inr (4, ov_ k1 k2 ba ca qm0 1)), (qm0, .inl (cI, 9, .inl mx))] sz) := by
  refine vx_ofW (cc := cX5_dimension) (maxL := 3) (ret := (some .int)) (by decide) rfl ?_
  intro p e s m args below meth c s₁ B hml hnx hv
  obtain ⟨rfl, ⟨hsz, hP, hK, hD0⟩, hev⟩ := hv
  have hx := B.exec
  have hb := B.bytes
  have hr := B.returns
  have hts := atoms_spec (ws := wsX5_dimension) B.pre
  have hown : s.vm.findClass RX5 = some m.cls := findClass_of_methodNamed B.named
  have hlocks := B.notSynchronized
  subst hsz
  have hD := hD0.self (sz := s.heap.size)
  generalize hAe : va_A [(ra0, .inr (5, sr_ f1 f2 oa)), (oa, .inr (4, ov_ k1 k2 ba ca qm0 1)), (qm0, .inl (cI, 9, .inl mx))] s.heap.size = A at hD hev ⊢
  have hA : ∀ q : Nat, s.heap.size ≤ q → A q := fun q h => by rw [← hAe]; exact Or.inr h
  have hS : va_S A s.heap s.heap [] := va_S.rf
  have hP : va_P g vwCl [(ra0, .inr (5, sr_ f1 f2 oa)), (oa, .inr (4, ov_ k1 k2 ba ca qm0 1)), (qm0, .inl (cI, 9, .inl mx))] s.heap := hP
  have hl := lv_entry ([.ref ra0, .int 0]) (n := 3) (Nat.le_of_ble_eq_true rfl)
  rw [lg_entry_eq]
  generalize (lg_sl ([.ref ra0, .int 0]) ++ List.replicate (3 - (lg_sl ([.ref ra0, .int 0])).length) Slot.unset).toArray = ls at hl ⊢
  have hl : lv_has ls 3 [(0, .ref ra0), (1, .int 0)] := hl
  have hH0 : s.heap = s.heap := rfl
  have hiX5 := ikX5_dimension10_X5
  refine lv_aload_n hx hb dX5_dimension_0 rfl (lv_at hl 0 rfl) ?_
  refine lv_iload_n hx hb dX5_dimension_1 rfl (lv_at hl 1 rfl) ?_
  have hPc := hP.sub (ws' := [(ra0, .inr (5, sr_ f1 f2 oa))]) [0] rfl
  have hDc := hD.sub (ws' := [(ra0, .inr (5, sr_ f1 f2 oa))]) [0] (by decide) rfl
  have hFc := va_free (wc := [(ra0, .inr (5, sr_ f1 f2 oa))]) hD hS hA [0] rfl
  refine vx_callr (vx_runV (As := [.int 0]) (rest := []) ⟨hx, hb, hml, hown, hts⟩ (kX5_figureOf l g cI cJ cZ s.heap.size hlt ra0 f1 f2 oa 0 f1 (fun _ => rfl) (fun h => absurd h (by decide))) (cwV 1 hts gX5_dimension_X5_figureOf rfl rfl rfl (by decide +kernel) ⟨Nat.le_of_ble_eq_true rfl, Nat.le_of_ble_eq_true rfl⟩) (pve_ hev hS hFc hK hPc hDc (va_recv hK hPc (ci := 5) (q0 := 0) rfl rfl)) rfl rfl hl.1 rfl (lv_room (Nat.le_of_ble_eq_true rfl)) dX5_dimension_2 ⟨by show 0 + 1 ≤ 1; omega, by show 0 + 6 ≤ 6; omega⟩) hS (fun q _ h => hFc q h) hFc (fun q _ h => hFc q h) (fun E ce q9 u t H1 locs ht hvm _ hBX hz1 hk1 hS hce hcv hcl => ?_) (fun u rg t H1 locs ht hvm hw hB hz1 hk1 hS => ?_)
  · obtain ⟨hE, hP1, hK1, hD1⟩ := hBX
    rw [ht] at hP1
    obtain ⟨hP, hD⟩ := va_join (wr := [(oa, .inr (4, ov_ k1 k2 ba ca qm0 1)), (qm0, .inl (cI, 9, .inl mx))]) (w1 := [(ra0, .inr (5, sr_ f1 f2 oa))]) hP hD [0] [1, 2] rfl rfl (by decide) (by decide) hk1 hFc hP1 hD1
    clear hPc hDc hFc hP1 hD1 hK1 hk1 hz1 hvm ht
    generalize H1 = H at hP hS hce ⊢
    have hP : va_P g vwCl [(oa, .inr (4, ov_ k1 k2 ba ca qm0 1)), (qm0, .inl (cI, 9, .inl mx)), (ra0, .inr (5, sr_ f1 f2 oa))] H := hP
    have hD : va_D A [(oa, .inr (4, ov_ k1 k2 ba ca qm0 1)), (qm0, .inl (cI, 9, .inl mx)), (ra0, .inr (5, sr_ f1 f2 oa))] := hD
    exact absurd rfl hE.2.1
  · obtain ⟨hra, hP1, hK1, hD1⟩ := hB
    rw [ht] at hP1
    obtain ⟨hP, hD⟩ := va_join (wr := [(oa, .inr (4, ov_ k1 k2 ba ca qm0 1)), (qm0, .inl (cI, 9, .inl mx))]) (w1 := [(ra0, .inr (5, sr_ f1 f2 oa))]) hP hD [0] [1, 2] rfl rfl (by decide) (by decide) hk1 hFc hP1 hD1
    clear hPc hDc hFc hP1 hD1 hK1 hk1 hz1 hvm ht
    generalize H1 = H at hP hS ⊢
    have hP : va_P g vwCl [(oa, .inr (4, ov_ k1 k2 ba ca qm0 1)), (qm0, .inl (cI, 9, .inl mx)), (ra0, .inr (5, sr_ f1 f2 oa))] H := hP
    have hD : va_D A [(oa, .inr (4, ov_ k1 k2 ba ca qm0 1)), (qm0, .inl (cI, 9, .inl mx)), (ra0, .inr (5, sr_ f1 f2 oa))] := hD
    rw [hra]
    refine lv_astore_n (lv' := [(2, .ref f1), (0, .ref ra0), (1, .int 0)]) hx hb dX5_dimension_5 rfl hl (by decide) rfl (fun ls hl => ?_)
    refine lv_aload_n hx hb dX5_dimension_6 rfl (lv_at hl 1 rfl) ?_
    refine va_get (D := g) (ci := 5) (v := .ref oa) (C := RX5) (T := TX5) (N := 3) hx hb hts hiX5 hown hK hP 2 rfl rfl 2 (by decide) (hts (.fieldLink RX5 24 "ShapeRelator" "overlay" "LShapeRelator$Overlay;") (List.mem_of_getElem? (i := 1) rfl)) (fun _ h9 => h9) rfl dX5_dimension_7 ?_
    have hPc := hP.sub (ws' := [(oa, .inr (4, ov_ k1 k2 ba ca qm0 1))]) [0] rfl
    have hDc := hD.sub (ws' := [(oa, .inr (4, ov_ k1 k2 ba ca qm0 1))]) [0] (by decide) rfl
    have hFc := va_free (wc := [(oa, .inr (4, ov_ k1 k2 ba ca qm0 1))]) hD hS hA [0] rfl
    refine va_callv (va_runV (As := []) (rest := []) ⟨hx, hb, hml, hown, hts⟩ (kX4_refresh1 l g cI cJ cZ H.size oa k1 k2 ba ca qm0) (cwV 0 hts gX5_dimension_X4_refresh rfl rfl rfl (by decide +kernel) ⟨Nat.le_of_ble_eq_true rfl, Nat.le_of_ble_eq_true rfl⟩) (pv_ hK hPc hDc (va_recv hK hPc (ci := 4) (q0 := 0) rfl rfl)) rfl rfl hl.1 rfl (lv_room (Nat.le_of_ble_eq_true rfl)) dX5_dimension_10 ⟨by show 0 + 1 + 0 ≤ 1; omega, by show 0 + 6 + 0 ≤ 6; omega⟩) hS (fun q _ h => hFc q h) hFc (fun u t H1 locs ht hvm hw hB hz1 hk1 hS => ?_)
    obtain ⟨hP1, hK1, hD1⟩ := hB
    rw [ht] at hP1
    obtain ⟨hP, hD⟩ := va_join (wr := [(qm0, .inl (cI, 9, .inl mx)), (ra0, .inr (5, sr_ f1 f2 oa))]) (w1 := [(oa, .inr (4, ov_ k1 k2 ba ca qm0 1))]) hP hD [0] [1, 2] rfl rfl (by decide) (by decide) hk1 hFc hP1 hD1
    clear hPc hDc hFc hP1 hD1 hK1 hk1 hz1 hvm ht
    generalize H1 = H at hP hS ⊢
    have hP : va_P g vwCl [(qm0, .inl (cI, 9, .inl mx)), (ra0, .inr (5, sr_ f1 f2 oa)), (oa, .inr (4, ov_ k1 k2 ba ca qm0 1))] H := hP
    have hD : va_D A [(qm0, .inl (cI, 9, .inl mx)), (ra0, .inr (5, sr_ f1 f2 oa)), (oa, .inr (4, ov_ k1 k2 ba ca qm0 1))] := hD
    refine lv_aload_n hx hb dX5_dimension_13 rfl (lv_at hl 0 rfl) ?_
    refine lv_aload_n hx hb dX5_dimension_14 rfl (lv_at hl 1 rfl) ?_
    refine va_get (D := g) (ci := 5) (v := .ref f1) (C := RX5) (T := TX5) (N := 3) hx hb hts hiX5 hown hK hP 1 rfl rfl 0 (by decide) (hts (.fieldLink RX5 10 "ShapeRelator" "first" "LShapeRelator$Figure;") (List.mem_of_getElem? (i := 2) rfl)) (fun _ h9 => h9) rfl dX5_dimension_15 ?_
    refine lv_acmp_ne (rx := some f1) (ry := some f1) (tgt := 43) hx hb dX5_dimension_18 (by decide) (fun ca9 => ?_) (fun ca9 => ?_)
    · exact absurd rfl ca9
    · refine lv_aload_n hx hb dX5_dimension_21 rfl (lv_at hl 1 rfl) ?_
      refine va_get (D := g) (ci := 5) (v := .ref oa) (C := RX5) (T := TX5) (N := 3) hx hb hts hiX5 hown hK hP 1 rfl rfl 2 (by decide) (hts (.fieldLink RX5 24 "ShapeRelator" "overlay" "LShapeRelator$Overlay;") (List.mem_of_getElem? (i := 1) rfl)) (fun _ h9 => h9) rfl dX5_dimension_22 ?_
      refine lv_iconst (v := 0) hx hb dX5_dimension_25 (by decide) ?_
      have hPc := hP.sub (ws' := [(oa, .inr (4, ov_ k1 k2 ba ca qm0 1)), (qm0, .inl (cI, 9, .inl mx))]) [2, 0] rfl
      have hDc := hD.sub (ws' := [(oa, .inr (4, ov_ k1 k2 ba ca qm0 1)), (qm0, .inl (cI, 9, .inl mx))]) [2, 0] (by decide) rfl
      have hFc := va_free (wc := [(oa, .inr (4, ov_ k1 k2 ba ca qm0 1)), (qm0, .inl (cI, 9, .inl mx))]) hD hS hA [2, 0] rfl
      refine va_calli (va_runV (As := [.int 0]) (rest := []) ⟨hx, hb, hml, hown, hts⟩ (kX4_dimensionInFirst l g cI cJ cZ H.size oa k1 k2 ba ca qm0 1 mx 0 t3_0) (cwV 1 hts gX5_dimension_X4_dimensionInFirst rfl rfl rfl (by decide +kernel) ⟨Nat.le_of_ble_eq_true rfl, Nat.le_of_ble_eq_true rfl⟩) (pv_ hK hPc hDc (va_recv hK hPc (ci := 4) (q0 := 0) rfl rfl)) rfl rfl hl.1 rfl (lv_room (Nat.le_of_ble_eq_true rfl)) dX5_dimension_26 ⟨by show 0 + 1 + 0 ≤ 1; omega, by show 0 + 6 + 0 ≤ 6; omega⟩) hS (fun q _ h => hFc q h) hFc (fun r1 u t H1 locs ht hvm hw1 hB hz1 hk1 hS => ?_)
      obtain ⟨hP1, hK1, hD1⟩ := hB
      rw [ht] at hP1
      obtain ⟨hP, hD⟩ := va_join (wr := [(ra0, .inr (5, sr_ f1 f2 oa))]) (w1 := [(oa, .inr (4, ov_ k1 k2 ba ca qm0 1)), (qm0, .inl (cI, 9, .inl mx))]) hP hD [2, 0] [1] rfl rfl (by decide) (by decide) hk1 hFc hP1 hD1
      clear hPc hDc hFc hP1 hD1 hK1 hk1 hz1 hvm ht
      generalize H1 = H at hP hS ⊢
      have hP : va_P g vwCl [(ra0, .inr (5, sr_ f1 f2 oa)), (oa, .inr (4, ov_ k1 k2 ba ca qm0 1)), (qm0, .inl (cI, 9, .inl mx))] H := hP
      have hD : va_D A [(ra0, .inr (5, sr_ f1 f2 oa)), (oa, .inr (4, ov_ k1 k2 ba ca qm0 1)), (qm0, .inl (cI, 9, .inl mx))] := hD
      refine lv_aload_n hx hb dX5_dimension_29 rfl (lv_at hl 1 rfl) ?_
      refine va_get (D := g) (ci := 5) (v := .ref oa) (C := RX5) (T := TX5) (N := 3) hx hb hts hiX5 hown hK hP 0 rfl rfl 2 (by decide) (hts (.fieldLink RX5 24 "ShapeRelator" "overlay" "LShapeRelator$Overlay;") (List.mem_of_getElem? (i := 1) rfl)) (fun _ h9 => h9) rfl dX5_dimension_30 ?_
      refine lv_iconst (v := 1) hx hb dX5_dimension_33 (by decide) ?_
      have hPc := hP.sub (ws' := [(oa, .inr (4, ov_ k1 k2 ba ca qm0 1)), (qm0, .inl (cI, 9, .inl mx))]) [1, 2] rfl
      have hDc := hD.sub (ws' := [(oa, .inr (4, ov_ k1 k2 ba ca qm0 1)), (qm0, .inl (cI, 9, .inl mx))]) [1, 2] (by decide) rfl
      have hFc := va_free (wc := [(oa, .inr (4, ov_ k1 k2 ba ca qm0 1)), (qm0, .inl (cI, 9, .inl mx))]) hD hS hA [1, 2] rfl
      refine va_calli (va_runV (As := [.int 1]) (rest := [.int r1]) ⟨hx, hb, hml, hown, hts⟩ (kX4_dimensionInFirst l g cI cJ cZ H.size oa k1 k2 ba ca qm0 1 mx 1 t3_1) (cwV 1 hts gX5_dimension_X4_dimensionInFirst rfl rfl rfl (by decide +kernel) ⟨Nat.le_of_ble_eq_true rfl, Nat.le_of_ble_eq_true rfl⟩) (pv_ hK hPc hDc (va_recv hK hPc (ci := 4) (q0 := 0) rfl rfl)) rfl rfl hl.1 rfl (lv_room (Nat.le_of_ble_eq_true rfl)) dX5_dimension_34 ⟨by show 0 + 1 + 0 ≤ 1; omega, by show 0 + 6 + 0 ≤ 6; omega⟩) hS (fun q _ h => hFc q h) hFc (fun r2 u t H1 locs ht hvm hw2 hB hz1 hk1 hS => ?_)
      obtain ⟨hP1, hK1, hD1⟩ := hB
      rw [ht] at hP1
      obtain ⟨hP, hD⟩ := va_join (wr := [(ra0, .inr (5, sr_ f1 f2 oa))]) (w1 := [(oa, .inr (4, ov_ k1 k2 ba ca qm0 1)), (qm0, .inl (cI, 9, .inl mx))]) hP hD [1, 2] [0] rfl rfl (by decide) (by decide) hk1 hFc hP1 hD1
      clear hPc hDc hFc hP1 hD1 hK1 hk1 hz1 hvm ht
      generalize H1 = H at hP hS ⊢
      have hP : va_P g vwCl [(ra0, .inr (5, sr_ f1 f2 oa)), (oa, .inr (4, ov_ k1 k2 ba ca qm0 1)), (qm0, .inl (cI, 9, .inl mx))] H := hP
      have hD : va_D A [(ra0, .inr (5, sr_ f1 f2 oa)), (oa, .inr (4, ov_ k1 k2 ba ca qm0 1)), (qm0, .inl (cI, 9, .inl mx))] := hD
      refine va_mmax hx hb (hml.trans hl.1.symm) hown (hts (.methodLink RX5 119 Lib.Math.max.name) (List.mem_of_getElem? (i := 3) rfl)) (hts (.static Lib.Math.max.name) (List.mem_of_getElem? (i := 4) rfl)) (hts (.initialized "java/lang/Math") (List.mem_of_getElem? (i := 5) rfl)) (hts (.code Lib.Math.max.name Lib.Math.max.code 2 (some .int)) (List.mem_of_getElem? (i := 6) rfl)) (Nat.le_of_ble_eq_true rfl) (Nat.le_of_ble_eq_true rfl) (by show 0 + 1 ≤ 1; omega) (by show 0 + 6 ≤ 6; omega) dX5_dimension_37 ?_
      refine lv_goto (tgt := 62) hx hb dX5_dimension_40 (by decide) ?_
      refine W.widen (k := 1) (n := 6) (by omega) (by omega) ?_
      have hP9 := hP.sub (ws' := [(ra0, .inr (5, sr_ f1 f2 oa)), (oa, .inr (4, ov_ k1 k2 ba ca qm0 1)), (qm0, .inl (cI, 9, .inl mx))]) [0, 1, 2] rfl
      have hD9 := hD.sub (ws' := [(ra0, .inr (5, sr_ f1 f2 oa)), (oa, .inr (4, ov_ k1 k2 ba ca qm0 1)), (qm0, .inl (cI, 9, .inl mx))]) [0, 1, 2] (by decide) rfl
      refine vx_ret ?_
      exact W.iret (v := (if r1 < r2 then r2 else r1)) hx hb hr (fun t ht hW => ⟨⟨if r1 < r2 then r2 else r1, (), rfl, by unfold mx_; rw [← hw1, ← hw2], by rw [ht]; exact hP9, va_K.moved hW.alike hK, hD9⟩, hS.F ht⟩) hS.2.2 dX5_dimension_62

theorem ikX5_dimension11_X5 : ∀ w ∈ wsX50, w ∈ wsX5_dimension := by decide +kernel
set_option maxHeartbeats 1000000 in
set_option maxRecDepth 100000 in
theorem kX5_dimension11 (l : Launch) (g : va_G) (cI cJ cZ : ClassId) (sz : Nat) (hlt : l.stackTraces = false) (ra0 : Nat) (f1 : Nat) (f2 : Nat) (oa : Nat) (k1 : Nat) (k2 : Nat) (ba : Nat) (ca : Nat) (qm0 : Nat) (mx : Nat → Int32) (hne : ¬ f1 = f2) : vx_Met l yX5_dimension wsX5_dimension ({ frames := 7, cells := 1, slots := 6, locals := 103 }) (pce_ g cI cJ cZ [.ref ra0, .int 1] [(ra0, .inr (5, sr_ f1 f2 oa)), (oa, .inr (4, ov_ k1 k2 ba ca qm0 1)), (qm0, .inl (cI, 9, .inl mx))] sz) (va_Qi (fun (r : Int32) (_ : Unit) => r = mx_ (dis_ mx 0) (dis_ mx 1)) (fun (_ : Unit) t => wd_ g cI cJ cZ (va_A [(ra0, .inr (5, sr_ f1 f2 oa)), (oa, .inr (4, ov_ k1 k2 ba ca qm0 1)), (qm0, .inl (cI, 9, .inl mx))] sz) [(ra0, .inr (5, sr_ f1 f2 oa)), (oa, .inr (4, ov_ k1 k2 ba ca qm0 1)), (qm0, .inl (cI, 9, .inl mx))] t) (va_A [(ra0, .inr (5, sr_ f1 f2 oa)), (oa, .inr (4, ov_ k1 k2 ba ca qm0 1)), (qm0, .inl (cI, 9, .inl mx))] sz)) (vx_X (fun _ : Unit => True) (fun E _ t => (False) ∧ wd_ g cI cJ cZ (va_A [(ra0, .inr (5, sr_ f1 f2 oa)), (oa, .inr (4, ov_ k1 k2 ba ca qm0 1)), (qm0, .inl (cI, 9, .inl mx))] sz) [(ra0, .inr (5, sr_ f1 f2 oa)), (oa, .inr (4, ov_ k1 k2 ba ca qm0 1)), (qm0, .inl (cI, 9, .inl mx))] t) (va_A [(ra0, .inr (5, sr_ f1 f2 oa)), (oa, .inr (4, ov_ k1 k2 ba ca qm0 1)), (qm0, .inl (cI, 9, .inl mx))] sz)) (1) (6) (va_A [(ra0, .inr (5, sr_ f1 f2 oa)), (oa, .inr (4, ov_ k1 k2 ba ca qm0 1)), (qm0, .inl (cI, 9, .inl mx))] sz) := by
  refine vx_ofW (cc := cX5_dimension) (maxL := 3) (ret := (some .int)) (by decide) rfl ?_
  intro p e s m args below meth c s₁ B hml hnx hv
  obtain ⟨rfl, ⟨hsz, hP, hK, hD0⟩, hev⟩ := hv
  have hx := B.exec
  have hb := B.bytes
  have hr := B.returns
  have hts := atoms_spec (ws := wsX5_dimension) B.pre
  have hown : s.vm.findClass RX5 = some m.cls := findClass_of_methodNamed B.named
  have hlocks := B.notSynchronized
  subst hsz
  have hD := hD0.self (sz := s.heap.size)
  generalize hAe : va_A [(ra0, .inr (5, sr_ f1 f2 oa)), (oa, .inr (4, ov_ k1 k2 ba ca qm0 1)), (qm0, .inl (cI, 9, .inl mx))] s.heap.size = A at hD hev ⊢
  have hA : ∀ q : Nat, s.heap.size ≤ q → A q := fun q h => by rw [← hAe]; exact Or.inr h
  have hS : va_S A s.heap s.heap [] := va_S.rf
  have hP : va_P g vwCl [(ra0, .inr (5, sr_ f1 f2 oa)), (oa, .inr (4, ov_ k1 k2 ba ca qm0 1)), (qm0, .inl (cI, 9, .inl mx))] s.heap := hP
  have hl := lv_entry ([.ref ra0, .int 1]) (n := 3) (Nat.le_of_ble_eq_true rfl)
  rw [lg_entry_eq]
  generalize (lg_sl ([.ref ra0, .int 1]) ++ List.replicate (3 - (lg_sl ([.ref ra0, .int 1])).length) Slot.unset).toArray = ls at hl ⊢
  have hl : lv_has ls 3 [(0, .ref ra0), (1, .int 1)] := hl
  have hH0 : s.heap = s.heap := rfl
  have hiX5 := ikX5_dimension11_X5
  refine lv_aload_n hx hb dX5_dimension_0 rfl (lv_at hl 0 rfl) ?_
  refine lv_iload_n hx hb dX5_dimension_1 rfl (lv_at hl 1 rfl) ?_
  have hPc := hP.sub (ws' := [(ra0, .inr (5, sr_ f1 f2 oa))]) [0] rfl
  have hDc := hD.sub (ws' := [(ra0, .inr (5, sr_ f1 f2 oa))]) [0] (by decide) rfl
  have hFc := va_free (wc := [(ra0, .inr (5, sr_ f1 f2 oa))]) hD hS hA [0] rfl
  refine vx_callr (vx_runV (As := [.int 1]) (rest := []) ⟨hx, hb, hml, hown, hts⟩ (kX5_figureOf l g cI cJ cZ s.heap.size hlt ra0 f1 f2 oa 1 f2 (fun h => absurd h (by decide)) (fun _ => rfl)) (cwV 1 hts gX5_dimension_X5_figureOf rfl rfl rfl (by decide +kernel) ⟨Nat.le_of_ble_eq_true rfl, Nat.le_of_ble_eq_true rfl⟩) (pve_ hev hS hFc hK hPc hDc (va_recv hK hPc (ci := 5) (q0 := 0) rfl rfl)) rfl rfl hl.1 rfl (lv_room (Nat.le_of_ble_eq_true rfl)) dX5_dimension_2 ⟨by show 0 + 1 ≤ 1; omega, by show 0 + 6 ≤ 6; omega⟩) hS (fun q _ h => hFc q h) hFc (fun q _ h => hFc q h) (fun E ce q9 u t H1 locs ht hvm _ hBX hz1 hk1 hS hce hcv hcl => ?_) (fun u rg t H1 locs ht hvm hw hB hz1 hk1 hS => ?_)
  · obtain ⟨hE, hP1, hK1, hD1⟩ := hBX
    rw [ht] at hP1
    obtain ⟨hP, hD⟩ := va_join (wr := [(oa, .inr (4, ov_ k1 k2 ba ca qm0 1)), (qm0, .inl (cI, 9, .inl mx))]) (w1 := [(ra0, .inr (5, sr_ f1 f2 oa))]) hP hD [0] [1, 2] rfl rfl (by decide) (by decide) hk1 hFc hP1 hD1
    clear hPc hDc hFc hP1 hD1 hK1 hk1 hz1 hvm ht
    generalize H1 = H at hP hS hce ⊢
    have hP : va_P g vwCl [(oa, .inr (4, ov_ k1 k2 ba ca qm0 1)), (qm0, .inl (cI, 9, .inl mx)), (ra0, .inr (5, sr_ f1 f2 oa))] H := hP
    have hD : va_D A [(oa, .inr (4, ov_ k1 k2 ba ca qm0 1)), (qm0, .inl (cI, 9, .inl mx)), (ra0, .inr (5, sr_ f1 f2 oa))] := hD
    exact absurd rfl hE.2.2
  · obtain ⟨hra, hP1, hK1, hD1⟩ := hB
    rw [ht] at hP1
    obtain ⟨hP, hD⟩ := va_join (wr := [(oa, .inr (4, ov_ k1 k2 ba ca qm0 1)), (qm0, .inl (cI, 9, .inl mx))]) (w1 := [(ra0, .inr (5, sr_ f1 f2 oa))]) hP hD [0] [1, 2] rfl rfl (by decide) (by decide) hk1 hFc hP1 hD1
    clear hPc hDc hFc hP1 hD1 hK1 hk1 hz1 hvm ht
    generalize H1 = H at hP hS ⊢
    have hP : va_P g vwCl [(oa, .inr (4, ov_ k1 k2 ba ca qm0 1)), (qm0, .inl (cI, 9, .inl mx)), (ra0, .inr (5, sr_ f1 f2 oa))] H := hP
    have hD : va_D A [(oa, .inr (4, ov_ k1 k2 ba ca qm0 1)), (qm0, .inl (cI, 9, .inl mx)), (ra0, .inr (5, sr_ f1 f2 oa))] := hD
    rw [hra]
    refine lv_astore_n (lv' := [(2, .ref f2), (0, .ref ra0), (1, .int 1)]) hx hb dX5_dimension_5 rfl hl (by decide) rfl (fun ls hl => ?_)
    refine lv_aload_n hx hb dX5_dimension_6 rfl (lv_at hl 1 rfl) ?_
    refine va_get (D := g) (ci := 5) (v := .ref oa) (C := RX5) (T := TX5) (N := 3) hx hb hts hiX5 hown hK hP 2 rfl rfl 2 (by decide) (hts (.fieldLink RX5 24 "ShapeRelator" "overlay" "LShapeRelator$Overlay;") (List.mem_of_getElem? (i := 1) rfl)) (fun _ h9 => h9) rfl dX5_dimension_7 ?_
    have hPc := hP.sub (ws' := [(oa, .inr (4, ov_ k1 k2 ba ca qm0 1))]) [0] rfl
    have hDc := hD.sub (ws' := [(oa, .inr (4, ov_ k1 k2 ba ca qm0 1))]) [0] (by decide) rfl
    have hFc := va_free (wc := [(oa, .inr (4, ov_ k1 k2 ba ca qm0 1))]) hD hS hA [0] rfl
    refine va_callv (va_runV (As := []) (rest := []) ⟨hx, hb, hml, hown, hts⟩ (kX4_refresh1 l g cI cJ cZ H.size oa k1 k2 ba ca qm0) (cwV 0 hts gX5_dimension_X4_refresh rfl rfl rfl (by decide +kernel) ⟨Nat.le_of_ble_eq_true rfl, Nat.le_of_ble_eq_true rfl⟩) (pv_ hK hPc hDc (va_recv hK hPc (ci := 4) (q0 := 0) rfl rfl)) rfl rfl hl.1 rfl (lv_room (Nat.le_of_ble_eq_true rfl)) dX5_dimension_10 ⟨by show 0 + 1 + 0 ≤ 1; omega, by show 0 + 6 + 0 ≤ 6; omega⟩) hS (fun q _ h => hFc q h) hFc (fun u t H1 locs ht hvm hw hB hz1 hk1 hS => ?_)
    obtain ⟨hP1, hK1, hD1⟩ := hB
    rw [ht] at hP1
    obtain ⟨hP, hD⟩ := va_join (wr := [(qm0, .inl (cI, 9, .inl mx)), (ra0, .inr (5, sr_ f1 f2 oa))]) (w1 := [(oa, .inr (4, ov_ k1 k2 ba ca qm0 1))]) hP hD [0] [1, 2] rfl rfl (by decide) (by decide) hk1 hFc hP1 hD1
    clear hPc hDc hFc hP1 hD1 hK1 hk1 hz1 hvm ht
    generalize H1 = H at hP hS ⊢
    have hP : va_P g vwCl [(qm0, .inl (cI, 9, .inl mx)), (ra0, .inr (5, sr_ f1 f2 oa)), (oa, .inr (4, ov_ k1 k2 ba ca qm0 1))] H := hP
    have hD : va_D A [(qm0, .inl (cI, 9, .inl mx)), (ra0, .inr (5, sr_ f1 f2 oa)), (oa, .inr (4, ov_ k1 k2 ba ca qm0 1))] := hD
    refine lv_aload_n hx hb dX5_dimension_13 rfl (lv_at hl 0 rfl) ?_
    refine lv_aload_n hx hb dX5_dimension_14 rfl (lv_at hl 1 rfl) ?_
    refine va_get (D := g) (ci := 5) (v := .ref f1) (C := RX5) (T := TX5) (N := 3) hx hb hts hiX5 hown hK hP 1 rfl rfl 0 (by decide) (hts (.fieldLink RX5 10 "ShapeRelator" "first" "LShapeRelator$Figure;") (List.mem_of_getElem? (i := 2) rfl)) (fun _ h9 => h9) rfl dX5_dimension_15 ?_
    refine lv_acmp_ne (rx := some f2) (ry := some f1) (tgt := 43) hx hb dX5_dimension_18 (by decide) (fun ca9 => ?_) (fun ca9 => ?_)
    · refine lv_aload_n hx hb dX5_dimension_43 rfl (lv_at hl 1 rfl) ?_
      refine va_get (D := g) (ci := 5) (v := .ref oa) (C := RX5) (T := TX5) (N := 3) hx hb hts hiX5 hown hK hP 1 rfl rfl 2 (by decide) (hts (.fieldLink RX5 24 "ShapeRelator" "overlay" "LShapeRelator$Overlay;") (List.mem_of_getElem? (i := 1) rfl)) (fun _ h9 => h9) rfl dX5_dimension_44 ?_
      refine lv_iconst (v := 0) hx hb dX5_dimension_47 (by decide) ?_
      have hPc := hP.sub (ws' := [(oa, .inr (4, ov_ k1 k2 ba ca qm0 1)), (qm0, .inl (cI, 9, .inl mx))]) [2, 0] rfl
      have hDc := hD.sub (ws' := [(oa, .inr (4, ov_ k1 k2 ba ca qm0 1)), (qm0, .inl (cI, 9, .inl mx))]) [2, 0] (by decide) rfl
      have hFc := va_free (wc := [(oa, .inr (4, ov_ k1 k2 ba ca qm0 1)), (qm0, .inl (cI, 9, .inl mx))]) hD hS hA [2, 0] rfl
      refine va_calli (va_runV (As := [.int 0]) (rest := []) ⟨hx, hb, hml, hown, hts⟩ (kX4_dimensionInSecond l g cI cJ cZ H.size oa k1 k2 ba ca qm0 1 mx 0 t3_0) (cwV 1 hts gX5_dimension_X4_dimensionInSecond rfl rfl rfl (by decide +kernel) ⟨Nat.le_of_ble_eq_true rfl, Nat.le_of_ble_eq_true rfl⟩) (pv_ hK hPc hDc (va_recv hK hPc (ci := 4) (q0 := 0) rfl rfl)) rfl rfl hl.1 rfl (lv_room (Nat.le_of_ble_eq_true rfl)) dX5_dimension_48 ⟨by show 0 + 1 + 0 ≤ 1; omega, by show 0 + 6 + 0 ≤ 6; omega⟩) hS (fun q _ h => hFc q h) hFc (fun r1 u t H1 locs ht hvm hw1 hB hz1 hk1 hS => ?_)
      obtain ⟨hP1, hK1, hD1⟩ := hB
      rw [ht] at hP1
      obtain ⟨hP, hD⟩ := va_join (wr := [(ra0, .inr (5, sr_ f1 f2 oa))]) (w1 := [(oa, .inr (4, ov_ k1 k2 ba ca qm0 1)), (qm0, .inl (cI, 9, .inl mx))]) hP hD [2, 0] [1] rfl rfl (by decide) (by decide) hk1 hFc hP1 hD1
      clear hPc hDc hFc hP1 hD1 hK1 hk1 hz1 hvm ht
      generalize H1 = H at hP hS ⊢
      have hP : va_P g vwCl [(ra0, .inr (5, sr_ f1 f2 oa)), (oa, .inr (4, ov_ k1 k2 ba ca qm0 1)), (qm0, .inl (cI, 9, .inl mx))] H := hP
      have hD : va_D A [(ra0, .inr (5, sr_ f1 f2 oa)), (oa, .inr (4, ov_ k1 k2 ba ca qm0 1)), (qm0, .inl (cI, 9, .inl mx))] := hD
      refine lv_aload_n hx hb dX5_dimension_51 rfl (lv_at hl 1 rfl) ?_
      refine va_get (D := g) (ci := 5) (v := .ref oa) (C := RX5) (T := TX5) (N := 3) hx hb hts hiX5 hown hK hP 0 rfl rfl 2 (by decide) (hts (.fieldLink RX5 24 "ShapeRelator" "overlay" "LShapeRelator$Overlay;") (List.mem_of_getElem? (i := 1) rfl)) (fun _ h9 => h9) rfl dX5_dimension_52 ?_
      refine lv_iconst (v := 1) hx hb dX5_dimension_55 (by decide) ?_
      have hPc := hP.sub (ws' := [(oa, .inr (4, ov_ k1 k2 ba ca qm0 1)), (qm0, .inl (cI, 9, .inl mx))]) [1, 2] rfl
      have hDc := hD.sub (ws' := [(oa, .inr (4, ov_ k1 k2 ba ca qm0 1)), (qm0, .inl (cI, 9, .inl mx))]) [1, 2] (by decide) rfl
      have hFc := va_free (wc := [(oa, .inr (4, ov_ k1 k2 ba ca qm0 1)), (qm0, .inl (cI, 9, .inl mx))]) hD hS hA [1, 2] rfl
      refine va_calli (va_runV (As := [.int 1]) (rest := [.int r1]) ⟨hx, hb, hml, hown, hts⟩ (kX4_dimensionInSecond l g cI cJ cZ H.size oa k1 k2 ba ca qm0 1 mx 1 t3_1) (cwV 1 hts gX5_dimension_X4_dimensionInSecond rfl rfl rfl (by decide +kernel) ⟨Nat.le_of_ble_eq_true rfl, Nat.le_of_ble_eq_true rfl⟩) (pv_ hK hPc hDc (va_recv hK hPc (ci := 4) (q0 := 0) rfl rfl)) rfl rfl hl.1 rfl (lv_room (Nat.le_of_ble_eq_true rfl)) dX5_dimension_56 ⟨by show 0 + 1 + 0 ≤ 1; omega, by show 0 + 6 + 0 ≤ 6; omega⟩) hS (fun q _ h => hFc q h) hFc (fun r2 u t H1 locs ht hvm hw2 hB hz1 hk1 hS => ?_)
      obtain ⟨hP1, hK1, hD1⟩ := hB
      rw [ht] at hP1
      obtain ⟨hP, hD⟩ := va_join (wr := [(ra0, .inr (5, sr_ f1 f2 oa))]) (w1 := [(oa, .inr (4, ov_ k1 k2 ba ca qm0 1)), (qm0, .inl (cI, 9, .inl mx))]) hP hD [1, 2] [0] rfl rfl (by decide) (by decide) hk1 hFc hP1 hD1
      clear hPc hDc hFc hP1 hD1 hK1 hk1 hz1 hvm ht
      generalize H1 = H at hP hS ⊢
      have hP : va_P g vwCl [(ra0, .inr (5, sr_ f1 f2 oa)), (oa, .inr (4, ov_ k1 k2 ba ca qm0 1)), (qm0, .inl (cI, 9, .inl mx))] H := hP
      have hD : va_D A [(ra0, .inr (5, sr_ f1 f2 oa)), (oa, .inr (4, ov_ k1 k2 ba ca qm0 1)), (qm0, .inl (cI, 9, .inl mx))] := hD
      refine va_mmax hx hb (hml.trans hl.1.symm) hown (hts (.methodLink RX5 119 Lib.Math.max.name) (List.mem_of_getElem? (i := 3) rfl)) (hts (.static Lib.Math.max.name) (List.mem_of_getElem? (i := 4) rfl)) (hts (.initialized "java/lang/Math") (List.mem_of_getElem? (i := 5) rfl)) (hts (.code Lib.Math.max.name Lib.Math.max.code 2 (some .int)) (List.mem_of_getElem? (i := 6) rfl)) (Nat.le_of_ble_eq_true rfl) (Nat.le_of_ble_eq_true rfl) (by show 0 + 1 ≤ 1; omega) (by show 0 + 6 ≤ 6; omega) dX5_dimension_59 ?_
      refine W.widen (k := 1) (n := 6) (by omega) (by omega) ?_
      have hP9 := hP.sub (ws' := [(ra0, .inr (5, sr_ f1 f2 oa)), (oa, .inr (4, ov_ k1 k2 ba ca qm0 1)), (qm0, .inl (cI, 9, .inl mx))]) [0, 1, 2] rfl
      have hD9 := hD.sub (ws' := [(ra0, .inr (5, sr_ f1 f2 oa)), (oa, .inr (4, ov_ k1 k2 ba ca qm0 1)), (qm0, .inl (cI, 9, .inl mx))]) [0, 1, 2] (by decide) rfl
      refine vx_ret ?_
      exact W.iret (v := (if r1 < r2 then r2 else r1)) hx hb hr (fun t ht hW => ⟨⟨if r1 < r2 then r2 else r1, (), rfl, by unfold mx_; rw [← hw1, ← hw2], by rw [ht]; exact hP9, va_K.moved hW.alike hK, hD9⟩, hS.F ht⟩) hS.2.2 dX5_dimension_62
    · exact absurd (Option.some.inj ca9).symm hne

theorem ikX5_is1_X5 : ∀ w ∈ wsX50, w ∈ wsX5_is := by decide +kernel
set_option maxHeartbeats 1000000 in
set_option maxRecDepth 100000 in
theorem kX5_is1 (l : Launch) (g : va_G) (cI cJ cZ : ClassId) (sz : Nat) (hlt : l.stackTraces = false) (ra0 : Nat) (f1 : Nat) (f2 : Nat) (oa : Nat) (k1 : Nat) (k2 : Nat) (ba : Nat) (ca : Nat) (qm0 : Nat) (mx : Nat → Int32) (wv : Int32)  : vx_Met l yX5_is wsX5_is ({ frames := 6, cells := 1, slots := 6, locals := 84 }) (pce_ g cI cJ cZ [.ref ra0, .int wv] [(ra0, .inr (5, sr_ f1 f2 oa)), (oa, .inr (4, ov_ k1 k2 ba ca qm0 1)), (qm0, .inl (cI, 9, .inl mx))] sz) (va_Qi (fun (r : Int32) (_ : Unit) => ¬ wi_ wv 0 8 = 0 ∧ r = isc_ wv mx) (fun (_ : Unit) t => wd_ g cI cJ cZ (va_A [(ra0, .inr (5, sr_ f1 f2 oa)), (oa, .inr (4, ov_ k1 k2 ba ca qm0 1)), (qm0, .inl (cI, 9, .inl mx))] sz) [(ra0, .inr (5, sr_ f1 f2 oa)), (oa, .inr (4, ov_ k1 k2 ba ca qm0 1)), (qm0, .inl (cI, 9, .inl mx))] t) (va_A [(ra0, .inr (5, sr_ f1 f2 oa)), (oa, .inr (4, ov_ k1 k2 ba ca qm0 1)), (qm0, .inl (cI, 9, .inl mx))] sz)) (vx_X (fun _ : Unit => True) (fun E _ t => (E = "java/lang/IndexOutOfBoundsException" ∧ wi_ wv 0 8 = 0) ∧ wd_ g cI cJ cZ (va_A [(ra0, .inr (5, sr_ f1 f2 oa)), (oa, .inr (4, ov_ k1 k2 ba ca qm0 1)), (qm0, .inl (cI, 9, .inl mx))] sz) [(ra0, .inr (5, sr_ f1 f2 oa)), (oa, .inr (4, ov_ k1 k2 ba ca qm0 1)), (qm0, .inl (cI, 9, .inl mx))] t) (va_A [(ra0, .inr (5, sr_ f1 f2 oa)), (oa, .inr (4, ov_ k1 k2 ba ca qm0 1)), (qm0, .inl (cI, 9, .inl mx))] sz)) (1) (6) (va_A [(ra0, .inr (5, sr_ f1 f2 oa)), (oa, .inr (4, ov_ k1 k2 ba ca qm0 1)), (qm0, .inl (cI, 9, .inl mx))] sz) := by
  refine vx_ofW (cc := cX5_is) (maxL := 2) (ret := (some .boolean)) (by decide) rfl ?_
  intro p e s m args below meth c s₁ B hml hnx hv
  obtain ⟨rfl, ⟨hsz, hP, hK, hD0⟩, hev⟩ := hv
  have hx := B.exec
  have hb := B.bytes
  have hr := B.returns
  have hts := atoms_spec (ws := wsX5_is) B.pre
  have hown : s.vm.findClass RX5 = some m.cls := findClass_of_methodNamed B.named
  have hlocks := B.notSynchronized
  subst hsz
  have hD := hD0.self (sz := s.heap.size)
  generalize hAe : va_A [(ra0, .inr (5, sr_ f1 f2 oa)), (oa, .inr (4, ov_ k1 k2 ba ca qm0 1)), (qm0, .inl (cI, 9, .inl mx))] s.heap.size = A at hD hev ⊢
  have hA : ∀ q : Nat, s.heap.size ≤ q → A q := fun q h => by rw [← hAe]; exact Or.inr h
  have hS : va_S A s.heap s.heap [] := va_S.rf
  have hP : va_P g vwCl [(ra0, .inr (5, sr_ f1 f2 oa)), (oa, .inr (4, ov_ k1 k2 ba ca qm0 1)), (qm0, .inl (cI, 9, .inl mx))] s.heap := hP
  have hl := lv_entry ([.ref ra0, .int wv]) (n := 2) (Nat.le_of_ble_eq_true rfl)
  rw [lg_entry_eq]
  generalize (lg_sl ([.ref ra0, .int wv]) ++ List.replicate (2 - (lg_sl ([.ref ra0, .int wv])).length) Slot.unset).toArray = ls at hl ⊢
  have hl : lv_has ls 2 [(0, .ref ra0), (1, .int wv)] := hl
  have hH0 : s.heap = s.heap := rfl
  have hiX5 := ikX5_is1_X5
  refine lv_iload_n hx hb dX5_is_0 rfl (lv_at hl 1 rfl) ?_
  refine lv_if_lt (tgt := 10) hx hb dX5_is_1 (by decide) (fun c1 => ?_) (fun c1 => ?_)
  · have hP9 := hP.sub (ws' := [(ra0, .inr (5, sr_ f1 f2 oa)), (oa, .inr (4, ov_ k1 k2 ba ca qm0 1)), (qm0, .inl (cI, 9, .inl mx))]) [0, 1, 2] rfl
    have hD9 := hD.sub (ws' := [(ra0, .inr (5, sr_ f1 f2 oa)), (oa, .inr (4, ov_ k1 k2 ba ca qm0 1)), (qm0, .inl (cI, 9, .inl mx))]) [0, 1, 2] (by decide) rfl
    obtain ⟨sa, hsa⟩ := hev.1.2.1 (90, "no such question") (List.mem_of_getElem? (i := 7) rfl)
    exact vx_throwS (A := A) (names := nm2_) (cls := "java/lang/IndexOutOfBoundsException") hx hb hlt hown fi1_ fin_ (hts (.classLink RX5 85 "java/lang/IndexOutOfBoundsException") (List.mem_of_getElem? (i := 1) rfl)) (hts (.initialized "java/lang/IndexOutOfBoundsException") (List.mem_of_getElem? (i := 2) rfl)) hsa (vx_hat (B := evB_) (fun w hw => hts w (List.mem_cons_of_mem _ (List.mem_append_right _ hw))) nb1_ (evB_u hev.1)) go1_ hev.2.1 hev.2.2 hS (hl.1.trans hml.symm) dX5_is_10 dX5_is_13 dX5_is_14 dX5_is_16 dX5_is_19 (fun x hx9 => (hnx x hx9).elim) (Nat.le_of_ble_eq_true rfl) (Nat.le_of_ble_eq_true rfl) (by show 0 + 1 ≤ 1; omega) (by show 0 + 6 ≤ 6; omega) hlocks (fun t hvm hz hq => ⟨(), trivial, ⟨⟨rfl, (wi1_ c1).symm⟩, vp_k hP9 hq, va_K.moved hvm hK, hD9⟩, vf_k hS hz hq⟩) hS.2.2 (by show 0 + 1 ≤ 1; omega) (by show 0 + 6 ≤ 6; omega)
  · refine lv_iload_n hx hb dX5_is_4 rfl (lv_at hl 1 rfl) ?_
    refine lv_bipush (v := 8) hx hb dX5_is_5 (by decide) ?_
    refine lv_icmp_le (tgt := 20) hx hb dX5_is_7 (by decide) (fun c2 => ?_) (fun c2 => ?_)
    · have n1 : ¬ wi_ wv 0 8 = 0 := by rw [← wi3_ c1 (Int32.not_lt.mpr c2)]; decide
      refine lv_aload_n hx hb dX5_is_20 rfl (lv_at hl 0 rfl) ?_
      refine va_get (D := g) (ci := 5) (v := .ref oa) (C := RX5) (T := TX5) (N := 3) hx hb hts hiX5 hown hK hP 0 rfl rfl 2 (by decide) (hts (.fieldLink RX5 24 "ShapeRelator" "overlay" "LShapeRelator$Overlay;") (List.mem_of_getElem? (i := 3) rfl)) (fun _ h9 => h9) rfl dX5_is_21 ?_
      have hPc := hP.sub (ws' := [(oa, .inr (4, ov_ k1 k2 ba ca qm0 1))]) [1] rfl
      have hDc := hD.sub (ws' := [(oa, .inr (4, ov_ k1 k2 ba ca qm0 1))]) [1] (by decide) rfl
      have hFc := va_free (wc := [(oa, .inr (4, ov_ k1 k2 ba ca qm0 1))]) hD hS hA [1] rfl
      refine va_callv (va_runV (As := []) (rest := []) ⟨hx, hb, hml, hown, hts⟩ (kX4_refresh1 l g cI cJ cZ s.heap.size oa k1 k2 ba ca qm0) (cwV 0 hts gX5_is_X4_refresh rfl rfl rfl (by decide +kernel) ⟨Nat.le_of_ble_eq_true rfl, Nat.le_of_ble_eq_true rfl⟩) (pv_ hK hPc hDc (va_recv hK hPc (ci := 4) (q0 := 0) rfl rfl)) rfl rfl hl.1 rfl (lv_room (Nat.le_of_ble_eq_true rfl)) dX5_is_24 ⟨Nat.zero_le _, Nat.zero_le _⟩) hS (fun q _ h => hFc q h) hFc (fun u t H1 locs ht hvm hw hB hz1 hk1 hS => ?_)
      obtain ⟨hP1, hK1, hD1⟩ := hB
      rw [ht] at hP1
      obtain ⟨hP, hD⟩ := va_join (wr := [(ra0, .inr (5, sr_ f1 f2 oa)), (qm0, .inl (cI, 9, .inl mx))]) (w1 := [(oa, .inr (4, ov_ k1 k2 ba ca qm0 1))]) hP hD [1] [0, 2] rfl rfl (by decide) (by decide) hk1 hFc hP1 hD1
      clear hPc hDc hFc hP1 hD1 hK1 hk1 hz1 hvm ht
      generalize H1 = H at hP hS ⊢
      have hP : va_P g vwCl [(ra0, .inr (5, sr_ f1 f2 oa)), (qm0, .inl (cI, 9, .inl mx)), (oa, .inr (4, ov_ k1 k2 ba ca qm0 1))] H := hP
      have hD : va_D A [(ra0, .inr (5, sr_ f1 f2 oa)), (qm0, .inl (cI, 9, .inl mx)), (oa, .inr (4, ov_ k1 k2 ba ca qm0 1))] := hD
      refine lv_iload_n hx hb dX5_is_27 rfl (lv_at hl 1 rfl) ?_
      rcases w8_c c1 c2 with hc | hc | hc | hc | hc | hc | hc | hc | hc
      · subst hc
        have hl : lv_has ls 2 [(0, .ref ra0), (1, .int 0)] := hl
        refine lv_tableIn (off := 48) (tgt := 76) hx hb dX5_is_28 (by decide) (by decide) rfl (by decide) ?_
        refine lv_aload_n hx hb dX5_is_76 rfl (lv_at hl 0 rfl) ?_
        refine va_get (D := g) (ci := 5) (v := .ref oa) (C := RX5) (T := TX5) (N := 3) hx hb hts hiX5 hown hK hP 0 rfl rfl 2 (by decide) (hts (.fieldLink RX5 24 "ShapeRelator" "overlay" "LShapeRelator$Overlay;") (List.mem_of_getElem? (i := 3) rfl)) (fun _ h9 => h9) rfl dX5_is_77 ?_
        have hPc := hP.sub (ws' := [(oa, .inr (4, ov_ k1 k2 ba ca qm0 1)), (qm0, .inl (cI, 9, .inl mx))]) [2, 1] rfl
        have hDc := hD.sub (ws' := [(oa, .inr (4, ov_ k1 k2 ba ca qm0 1)), (qm0, .inl (cI, 9, .inl mx))]) [2, 1] (by decide) rfl
        have hFc := va_free (wc := [(oa, .inr (4, ov_ k1 k2 ba ca qm0 1)), (qm0, .inl (cI, 9, .inl mx))]) hD hS hA [2, 1] rfl
        refine va_calli (va_runV (As := []) (rest := []) ⟨hx, hb, hml, hown, hts⟩ (kX4_areEqual l g cI cJ cZ H.size oa k1 k2 ba ca qm0 1 mx) (cwV 0 hts gX5_is_X4_areEqual rfl rfl rfl (by decide +kernel) ⟨Nat.le_of_ble_eq_true rfl, Nat.le_of_ble_eq_true rfl⟩) (pv_ hK hPc hDc (va_recv hK hPc (ci := 4) (q0 := 0) rfl rfl)) rfl rfl hl.1 rfl (lv_room (Nat.le_of_ble_eq_true rfl)) dX5_is_80 ⟨Nat.zero_le _, Nat.zero_le _⟩) hS (fun q _ h => hFc q h) hFc (fun t1 u t H1 locs ht hvm ht1 hB hz1 hk1 hS => ?_)
        obtain ⟨hP1, hK1, hD1⟩ := hB
        rw [ht] at hP1
        obtain ⟨hP, hD⟩ := va_join (wr := [(ra0, .inr (5, sr_ f1 f2 oa))]) (w1 := [(oa, .inr (4, ov_ k1 k2 ba ca qm0 1)), (qm0, .inl (cI, 9, .inl mx))]) hP hD [2, 1] [0] rfl rfl (by decide) (by decide) hk1 hFc hP1 hD1
        clear hPc hDc hFc hP1 hD1 hK1 hk1 hz1 hvm ht
        generalize H1 = H at hP hS ⊢
        have hP : va_P g vwCl [(ra0, .inr (5, sr_ f1 f2 oa)), (oa, .inr (4, ov_ k1 k2 ba ca qm0 1)), (qm0, .inl (cI, 9, .inl mx))] H := hP
        have hD : va_D A [(ra0, .inr (5, sr_ f1 f2 oa)), (oa, .inr (4, ov_ k1 k2 ba ca qm0 1)), (qm0, .inl (cI, 9, .inl mx))] := hD
        refine W.widen (k := 1) (n := 6) (by omega) (by omega) ?_
        have hP9 := hP.sub (ws' := [(ra0, .inr (5, sr_ f1 f2 oa)), (oa, .inr (4, ov_ k1 k2 ba ca qm0 1)), (qm0, .inl (cI, 9, .inl mx))]) [0, 1, 2] rfl
        have hD9 := hD.sub (ws' := [(ra0, .inr (5, sr_ f1 f2 oa)), (oa, .inr (4, ov_ k1 k2 ba ca qm0 1)), (qm0, .inl (cI, 9, .inl mx))]) [0, 1, 2] (by decide) rfl
        refine vx_ret ?_
        exact W.zret (v := t1) (ty := .boolean) hx hb hr (by rw [ht1]; exact aeq_z) (fun t ht hW => ⟨⟨t1, (), rfl, ⟨n1, by rw [ht1]; rfl⟩, by rw [ht]; exact hP9, va_K.moved hW.alike hK, hD9⟩, hS.F ht⟩) hS.2.2 dX5_is_83
      · subst hc
        have hl : lv_has ls 2 [(0, .ref ra0), (1, .int 1)] := hl
        refine lv_tableIn (off := 56) (tgt := 84) hx hb dX5_is_28 (by decide) (by decide) rfl (by decide) ?_
        refine lv_aload_n hx hb dX5_is_84 rfl (lv_at hl 0 rfl) ?_
        refine va_get (D := g) (ci := 5) (v := .ref oa) (C := RX5) (T := TX5) (N := 3) hx hb hts hiX5 hown hK hP 0 rfl rfl 2 (by decide) (hts (.fieldLink RX5 24 "ShapeRelator" "overlay" "LShapeRelator$Overlay;") (List.mem_of_getElem? (i := 3) rfl)) (fun _ h9 => h9) rfl dX5_is_85 ?_
        have hPc := hP.sub (ws' := [(oa, .inr (4, ov_ k1 k2 ba ca qm0 1)), (qm0, .inl (cI, 9, .inl mx))]) [2, 1] rfl
        have hDc := hD.sub (ws' := [(oa, .inr (4, ov_ k1 k2 ba ca qm0 1)), (qm0, .inl (cI, 9, .inl mx))]) [2, 1] (by decide) rfl
        have hFc := va_free (wc := [(oa, .inr (4, ov_ k1 k2 ba ca qm0 1)), (qm0, .inl (cI, 9, .inl mx))]) hD hS hA [2, 1] rfl
        refine va_calli (va_runV (As := []) (rest := []) ⟨hx, hb, hml, hown, hts⟩ (kX4_haveCommonPlace l g cI cJ cZ H.size oa k1 k2 ba ca qm0 1 mx) (cwV 0 hts gX5_is_X4_haveCommonPlace rfl rfl rfl (by decide +kernel) ⟨Nat.le_of_ble_eq_true rfl, Nat.le_of_ble_eq_true rfl⟩) (pv_ hK hPc hDc (va_recv hK hPc (ci := 4) (q0 := 0) rfl rfl)) rfl rfl hl.1 rfl (lv_room (Nat.le_of_ble_eq_true rfl)) dX5_is_88 ⟨Nat.zero_le _, Nat.zero_le _⟩) hS (fun q _ h => hFc q h) hFc (fun t1 u t H1 locs ht hvm ht1 hB hz1 hk1 hS => ?_)
        obtain ⟨hP1, hK1, hD1⟩ := hB
        rw [ht] at hP1
        obtain ⟨hP, hD⟩ := va_join (wr := [(ra0, .inr (5, sr_ f1 f2 oa))]) (w1 := [(oa, .inr (4, ov_ k1 k2 ba ca qm0 1)), (qm0, .inl (cI, 9, .inl mx))]) hP hD [2, 1] [0] rfl rfl (by decide) (by decide) hk1 hFc hP1 hD1
        clear hPc hDc hFc hP1 hD1 hK1 hk1 hz1 hvm ht
        generalize H1 = H at hP hS ⊢
        have hP : va_P g vwCl [(ra0, .inr (5, sr_ f1 f2 oa)), (oa, .inr (4, ov_ k1 k2 ba ca qm0 1)), (qm0, .inl (cI, 9, .inl mx))] H := hP
        have hD : va_D A [(ra0, .inr (5, sr_ f1 f2 oa)), (oa, .inr (4, ov_ k1 k2 ba ca qm0 1)), (qm0, .inl (cI, 9, .inl mx))] := hD
        refine lv_if_ne (tgt := 98) hx hb dX5_is_91 (by decide) (fun x1 => ?_) (fun x1 => ?_)
        · refine lv_iconst (v := 0) hx hb dX5_is_98 (by decide) ?_
          refine W.widen (k := 1) (n := 6) (by omega) (by omega) ?_
          have hP9 := hP.sub (ws' := [(ra0, .inr (5, sr_ f1 f2 oa)), (oa, .inr (4, ov_ k1 k2 ba ca qm0 1)), (qm0, .inl (cI, 9, .inl mx))]) [0, 1, 2] rfl
          have hD9 := hD.sub (ws' := [(ra0, .inr (5, sr_ f1 f2 oa)), (oa, .inr (4, ov_ k1 k2 ba ca qm0 1)), (qm0, .inl (cI, 9, .inl mx))]) [0, 1, 2] (by decide) rfl
          refine vx_ret ?_
          exact W.zret (v := 0) (ty := .boolean) hx hb hr (by decide +kernel) (fun t ht hW => ⟨⟨0, (), rfl, ⟨n1, by (try simp only [ht1] at x1); simp [isc_, x1, ht1]⟩, by rw [ht]; exact hP9, va_K.moved hW.alike hK, hD9⟩, hS.F ht⟩) hS.2.2 dX5_is_99
        · refine lv_iconst (v := 1) hx hb dX5_is_94 (by decide) ?_
          refine lv_goto (tgt := 99) hx hb dX5_is_95 (by decide) ?_
          refine W.widen (k := 1) (n := 6) (by omega) (by omega) ?_
          have hP9 := hP.sub (ws' := [(ra0, .inr (5, sr_ f1 f2 oa)), (oa, .inr (4, ov_ k1 k2 ba ca qm0 1)), (qm0, .inl (cI, 9, .inl mx))]) [0, 1, 2] rfl
          have hD9 := hD.sub (ws' := [(ra0, .inr (5, sr_ f1 f2 oa)), (oa, .inr (4, ov_ k1 k2 ba ca qm0 1)), (qm0, .inl (cI, 9, .inl mx))]) [0, 1, 2] (by decide) rfl
          refine vx_ret ?_
          exact W.zret (v := 1) (ty := .boolean) hx hb hr (by decide +kernel) (fun t ht hW => ⟨⟨1, (), rfl, ⟨n1, by (try simp only [ht1] at x1); simp [isc_, x1, ht1]⟩, by rw [ht]; exact hP9, va_K.moved hW.alike hK, hD9⟩, hS.F ht⟩) hS.2.2 dX5_is_99
      · subst hc
        have hl : lv_has ls 2 [(0, .ref ra0), (1, .int 2)] := hl
        refine lv_tableIn (off := 72) (tgt := 100) hx hb dX5_is_28 (by decide) (by decide) rfl (by decide) ?_
        refine lv_aload_n hx hb dX5_is_100 rfl (lv_at hl 0 rfl) ?_
        refine va_get (D := g) (ci := 5) (v := .ref oa) (C := RX5) (T := TX5) (N := 3) hx hb hts hiX5 hown hK hP 0 rfl rfl 2 (by decide) (hts (.fieldLink RX5 24 "ShapeRelator" "overlay" "LShapeRelator$Overlay;") (List.mem_of_getElem? (i := 3) rfl)) (fun _ h9 => h9) rfl dX5_is_101 ?_
        refine lv_iconst (v := 0) hx hb dX5_is_104 (by decide) ?_
        refine lv_iconst (v := 0) hx hb dX5_is_105 (by decide) ?_
        have hPc := hP.sub (ws' := [(oa, .inr (4, ov_ k1 k2 ba ca qm0 1)), (qm0, .inl (cI, 9, .inl mx))]) [2, 1] rfl
        have hDc := hD.sub (ws' := [(oa, .inr (4, ov_ k1 k2 ba ca qm0 1)), (qm0, .inl (cI, 9, .inl mx))]) [2, 1] (by decide) rfl
        have hFc := va_free (wc := [(oa, .inr (4, ov_ k1 k2 ba ca qm0 1)), (qm0, .inl (cI, 9, .inl mx))]) hD hS hA [2, 1] rfl
        refine va_calli (va_runV (As := [.int 0, .int 0]) (rest := []) ⟨hx, hb, hml, hown, hts⟩ (kX4_has l g cI cJ cZ H.size oa k1 k2 ba ca qm0 1 mx 0 0 t3_0 t3_0) (cwV 2 hts gX5_is_X4_has rfl rfl rfl (by decide +kernel) ⟨Nat.le_of_ble_eq_true rfl, Nat.le_of_ble_eq_true rfl⟩) (pv_ hK hPc hDc (va_recv hK hPc (ci := 4) (q0 := 0) rfl rfl)) rfl rfl hl.1 rfl (lv_room (Nat.le_of_ble_eq_true rfl)) dX5_is_106 ⟨Nat.zero_le _, Nat.zero_le _⟩) hS (fun q _ h => hFc q h) hFc (fun t1 u t H1 locs ht hvm ht1 hB hz1 hk1 hS => ?_)
        obtain ⟨hP1, hK1, hD1⟩ := hB
        rw [ht] at hP1
        obtain ⟨hP, hD⟩ := va_join (wr := [(ra0, .inr (5, sr_ f1 f2 oa))]) (w1 := [(oa, .inr (4, ov_ k1 k2 ba ca qm0 1)), (qm0, .inl (cI, 9, .inl mx))]) hP hD [2, 1] [0] rfl rfl (by decide) (by decide) hk1 hFc hP1 hD1
        clear hPc hDc hFc hP1 hD1 hK1 hk1 hz1 hvm ht
        generalize H1 = H at hP hS ⊢
        have hP : va_P g vwCl [(ra0, .inr (5, sr_ f1 f2 oa)), (oa, .inr (4, ov_ k1 k2 ba ca qm0 1)), (qm0, .inl (cI, 9, .inl mx))] H := hP
        have hD : va_D A [(ra0, .inr (5, sr_ f1 f2 oa)), (oa, .inr (4, ov_ k1 k2 ba ca qm0 1)), (qm0, .inl (cI, 9, .inl mx))] := hD
        refine lv_if_ne (tgt := 126) hx hb dX5_is_109 (by decide) (fun x1 => ?_) (fun x1 => ?_)
        · refine lv_iconst (v := 0) hx hb dX5_is_126 (by decide) ?_
          refine W.widen (k := 1) (n := 6) (by omega) (by omega) ?_
          have hP9 := hP.sub (ws' := [(ra0, .inr (5, sr_ f1 f2 oa)), (oa, .inr (4, ov_ k1 k2 ba ca qm0 1)), (qm0, .inl (cI, 9, .inl mx))]) [0, 1, 2] rfl
          have hD9 := hD.sub (ws' := [(ra0, .inr (5, sr_ f1 f2 oa)), (oa, .inr (4, ov_ k1 k2 ba ca qm0 1)), (qm0, .inl (cI, 9, .inl mx))]) [0, 1, 2] (by decide) rfl
          refine vx_ret ?_
          exact W.zret (v := 0) (ty := .boolean) hx hb hr (by decide +kernel) (fun t ht hW => ⟨⟨0, (), rfl, ⟨n1, by (try simp only [ht1] at x1); simp [isc_, x1, ht1]⟩, by rw [ht]; exact hP9, va_K.moved hW.alike hK, hD9⟩, hS.F ht⟩) hS.2.2 dX5_is_127
        · refine lv_aload_n hx hb dX5_is_112 rfl (lv_at hl 0 rfl) ?_
          refine va_get (D := g) (ci := 5) (v := .ref oa) (C := RX5) (T := TX5) (N := 3) hx hb hts hiX5 hown hK hP 0 rfl rfl 2 (by decide) (hts (.fieldLink RX5 24 "ShapeRelator" "overlay" "LShapeRelator$Overlay;") (List.mem_of_getElem? (i := 3) rfl)) (fun _ h9 => h9) rfl dX5_is_113 ?_
          have hPc := hP.sub (ws' := [(oa, .inr (4, ov_ k1 k2 ba ca qm0 1)), (qm0, .inl (cI, 9, .inl mx))]) [1, 2] rfl
          have hDc := hD.sub (ws' := [(oa, .inr (4, ov_ k1 k2 ba ca qm0 1)), (qm0, .inl (cI, 9, .inl mx))]) [1, 2] (by decide) rfl
          have hFc := va_free (wc := [(oa, .inr (4, ov_ k1 k2 ba ca qm0 1)), (qm0, .inl (cI, 9, .inl mx))]) hD hS hA [1, 2] rfl
          refine va_calli (va_runV (As := []) (rest := []) ⟨hx, hb, hml, hown, hts⟩ (kX4_haveCommonPlace l g cI cJ cZ H.size oa k1 k2 ba ca qm0 1 mx) (cwV 0 hts gX5_is_X4_haveCommonPlace rfl rfl rfl (by decide +kernel) ⟨Nat.le_of_ble_eq_true rfl, Nat.le_of_ble_eq_true rfl⟩) (pv_ hK hPc hDc (va_recv hK hPc (ci := 4) (q0 := 0) rfl rfl)) rfl rfl hl.1 rfl (lv_room (Nat.le_of_ble_eq_true rfl)) dX5_is_116 ⟨Nat.zero_le _, Nat.zero_le _⟩) hS (fun q _ h => hFc q h) hFc (fun t2 u t H1 locs ht hvm ht2 hB hz1 hk1 hS => ?_)
          obtain ⟨hP1, hK1, hD1⟩ := hB
          rw [ht] at hP1
          obtain ⟨hP, hD⟩ := va_join (wr := [(ra0, .inr (5, sr_ f1 f2 oa))]) (w1 := [(oa, .inr (4, ov_ k1 k2 ba ca qm0 1)), (qm0, .inl (cI, 9, .inl mx))]) hP hD [1, 2] [0] rfl rfl (by decide) (by decide) hk1 hFc hP1 hD1
          clear hPc hDc hFc hP1 hD1 hK1 hk1 hz1 hvm ht
          generalize H1 = H at hP hS ⊢
          have hP : va_P g vwCl [(ra0, .inr (5, sr_ f1 f2 oa)), (oa, .inr (4, ov_ k1 k2 ba ca qm0 1)), (qm0, .inl (cI, 9, .inl mx))] H := hP
          have hD : va_D A [(ra0, .inr (5, sr_ f1 f2 oa)), (oa, .inr (4, ov_ k1 k2 ba ca qm0 1)), (qm0, .inl (cI, 9, .inl mx))] := hD
          refine lv_if_eq (tgt := 126) hx hb dX5_is_119 (by decide) (fun x2 => ?_) (fun x2 => ?_)
          · refine lv_iconst (v := 0) hx hb dX5_is_126 (by decide) ?_
            refine W.widen (k := 1) (n := 6) (by omega) (by omega) ?_
            have hP9 := hP.sub (ws' := [(ra0, .inr (5, sr_ f1 f2 oa)), (oa, .inr (4, ov_ k1 k2 ba ca qm0 1)), (qm0, .inl (cI, 9, .inl mx))]) [0, 1, 2] rfl
            have hD9 := hD.sub (ws' := [(ra0, .inr (5, sr_ f1 f2 oa)), (oa, .inr (4, ov_ k1 k2 ba ca qm0 1)), (qm0, .inl (cI, 9, .inl mx))]) [0, 1, 2] (by decide) rfl
            refine vx_ret ?_
            exact W.zret (v := 0) (ty := .boolean) hx hb hr (by decide +kernel) (fun t ht hW => ⟨⟨0, (), rfl, ⟨n1, by (try simp only [ht1, ht2] at x1 x2); simp [isc_, x1, x2, ht1, ht2]⟩, by rw [ht]; exact hP9, va_K.moved hW.alike hK, hD9⟩, hS.F ht⟩) hS.2.2 dX5_is_127
          · refine lv_iconst (v := 1) hx hb dX5_is_122 (by decide) ?_
            refine lv_goto (tgt := 127) hx hb dX5_is_123 (by decide) ?_
            refine W.widen (k := 1) (n := 6) (by omega) (by omega) ?_
            have hP9 := hP.sub (ws' := [(ra0, .inr (5, sr_ f1 f2 oa)), (oa, .inr (4, ov_ k1 k2 ba ca qm0 1)), (qm0, .inl (cI, 9, .inl mx))]) [0, 1, 2] rfl
            have hD9 := hD.sub (ws' := [(ra0, .inr (5, sr_ f1 f2 oa)), (oa, .inr (4, ov_ k1 k2 ba ca qm0 1)), (qm0, .inl (cI, 9, .inl mx))]) [0, 1, 2] (by decide) rfl
            refine vx_ret ?_
            exact W.zret (v := 1) (ty := .boolean) hx hb hr (by decide +kernel) (fun t ht hW => ⟨⟨1, (), rfl, ⟨n1, by (try simp only [ht1, ht2] at x1 x2); simp [isc_, x1, x2, ht1, ht2]⟩, by rw [ht]; exact hP9, va_K.moved hW.alike hK, hD9⟩, hS.F ht⟩) hS.2.2 dX5_is_127
      · subst hc
        have hl : lv_has ls 2 [(0, .ref ra0), (1, .int 3)] := hl
        refine lv_tableIn (off := 100) (tgt := 128) hx hb dX5_is_28 (by decide) (by decide) rfl (by decide) ?_
        refine lv_aload_n hx hb dX5_is_128 rfl (lv_at hl 0 rfl) ?_
        refine va_get (D := g) (ci := 5) (v := .ref oa) (C := RX5) (T := TX5) (N := 3) hx hb hts hiX5 hown hK hP 0 rfl rfl 2 (by decide) (hts (.fieldLink RX5 24 "ShapeRelator" "overlay" "LShapeRelator$Overlay;") (List.mem_of_getElem? (i := 3) rfl)) (fun _ h9 => h9) rfl dX5_is_129 ?_
        have hPc := hP.sub (ws' := [(oa, .inr (4, ov_ k1 k2 ba ca qm0 1)), (qm0, .inl (cI, 9, .inl mx))]) [2, 1] rfl
        have hDc := hD.sub (ws' := [(oa, .inr (4, ov_ k1 k2 ba ca qm0 1)), (qm0, .inl (cI, 9, .inl mx))]) [2, 1] (by decide) rfl
        have hFc := va_free (wc := [(oa, .inr (4, ov_ k1 k2 ba ca qm0 1)), (qm0, .inl (cI, 9, .inl mx))]) hD hS hA [2, 1] rfl
        refine va_calli (va_runV (As := []) (rest := []) ⟨hx, hb, hml, hown, hts⟩ (kX4_doCross l g cI cJ cZ H.size oa k1 k2 ba ca qm0 1 mx) (cwV 0 hts gX5_is_X4_doCross rfl rfl rfl (by decide +kernel) ⟨Nat.le_of_ble_eq_true rfl, Nat.le_of_ble_eq_true rfl⟩) (pv_ hK hPc hDc (va_recv hK hPc (ci := 4) (q0 := 0) rfl rfl)) rfl rfl hl.1 rfl (lv_room (Nat.le_of_ble_eq_true rfl)) dX5_is_132 ⟨Nat.zero_le _, Nat.zero_le _⟩) hS (fun q _ h => hFc q h) hFc (fun t1 u t H1 locs ht hvm ht1 hB hz1 hk1 hS => ?_)
        obtain ⟨hP1, hK1, hD1⟩ := hB
        rw [ht] at hP1
        obtain ⟨hP, hD⟩ := va_join (wr := [(ra0, .inr (5, sr_ f1 f2 oa))]) (w1 := [(oa, .inr (4, ov_ k1 k2 ba ca qm0 1)), (qm0, .inl (cI, 9, .inl mx))]) hP hD [2, 1] [0] rfl rfl (by decide) (by decide) hk1 hFc hP1 hD1
        clear hPc hDc hFc hP1 hD1 hK1 hk1 hz1 hvm ht
        generalize H1 = H at hP hS ⊢
        have hP : va_P g vwCl [(ra0, .inr (5, sr_ f1 f2 oa)), (oa, .inr (4, ov_ k1 k2 ba ca qm0 1)), (qm0, .inl (cI, 9, .inl mx))] H := hP
        have hD : va_D A [(ra0, .inr (5, sr_ f1 f2 oa)), (oa, .inr (4, ov_ k1 k2 ba ca qm0 1)), (qm0, .inl (cI, 9, .inl mx))] := hD
        refine W.widen (k := 1) (n := 6) (by omega) (by omega) ?_
        have hP9 := hP.sub (ws' := [(ra0, .inr (5, sr_ f1 f2 oa)), (oa, .inr (4, ov_ k1 k2 ba ca qm0 1)), (qm0, .inl (cI, 9, .inl mx))]) [0, 1, 2] rfl
        have hD9 := hD.sub (ws' := [(ra0, .inr (5, sr_ f1 f2 oa)), (oa, .inr (4, ov_ k1 k2 ba ca qm0 1)), (qm0, .inl (cI, 9, .inl mx))]) [0, 1, 2] (by decide) rfl
        refine vx_ret ?_
        exact W.zret (v := t1) (ty := .boolean) hx hb hr (by rw [ht1]; exact dcr_z) (fun t ht hW => ⟨⟨t1, (), rfl, ⟨n1, by rw [ht1]; rfl⟩, by rw [ht]; exact hP9, va_K.moved hW.alike hK, hD9⟩, hS.F ht⟩) hS.2.2 dX5_is_135
      · subst hc
        have hl : lv_has ls 2 [(0, .ref ra0), (1, .int 4)] := hl
        refine lv_tableIn (off := 108) (tgt := 136) hx hb dX5_is_28 (by decide) (by decide) rfl (by decide) ?_
        refine lv_aload_n hx hb dX5_is_136 rfl (lv_at hl 0 rfl) ?_
        refine va_get (D := g) (ci := 5) (v := .ref oa) (C := RX5) (T := TX5) (N := 3) hx hb hts hiX5 hown hK hP 0 rfl rfl 2 (by decide) (hts (.fieldLink RX5 24 "ShapeRelator" "overlay" "LShapeRelator$Overlay;") (List.mem_of_getElem? (i := 3) rfl)) (fun _ h9 => h9) rfl dX5_is_137 ?_
        refine lv_iconst (v := 0) hx hb dX5_is_140 (by decide) ?_
        refine lv_iconst (v := 0) hx hb dX5_is_141 (by decide) ?_
        have hPc := hP.sub (ws' := [(oa, .inr (4, ov_ k1 k2 ba ca qm0 1)), (qm0, .inl (cI, 9, .inl mx))]) [2, 1] rfl
        have hDc := hD.sub (ws' := [(oa, .inr (4, ov_ k1 k2 ba ca qm0 1)), (qm0, .inl (cI, 9, .inl mx))]) [2, 1] (by decide) rfl
        have hFc := va_free (wc := [(oa, .inr (4, ov_ k1 k2 ba ca qm0 1)), (qm0, .inl (cI, 9, .inl mx))]) hD hS hA [2, 1] rfl
        refine va_calli (va_runV (As := [.int 0, .int 0]) (rest := []) ⟨hx, hb, hml, hown, hts⟩ (kX4_has l g cI cJ cZ H.size oa k1 k2 ba ca qm0 1 mx 0 0 t3_0 t3_0) (cwV 2 hts gX5_is_X4_has rfl rfl rfl (by decide +kernel) ⟨Nat.le_of_ble_eq_true rfl, Nat.le_of_ble_eq_true rfl⟩) (pv_ hK hPc hDc (va_recv hK hPc (ci := 4) (q0 := 0) rfl rfl)) rfl rfl hl.1 rfl (lv_room (Nat.le_of_ble_eq_true rfl)) dX5_is_142 ⟨Nat.zero_le _, Nat.zero_le _⟩) hS (fun q _ h => hFc q h) hFc (fun t1 u t H1 locs ht hvm ht1 hB hz1 hk1 hS => ?_)
        obtain ⟨hP1, hK1, hD1⟩ := hB
        rw [ht] at hP1
        obtain ⟨hP, hD⟩ := va_join (wr := [(ra0, .inr (5, sr_ f1 f2 oa))]) (w1 := [(oa, .inr (4, ov_ k1 k2 ba ca qm0 1)), (qm0, .inl (cI, 9, .inl mx))]) hP hD [2, 1] [0] rfl rfl (by decide) (by decide) hk1 hFc hP1 hD1
        clear hPc hDc hFc hP1 hD1 hK1 hk1 hz1 hvm ht
        generalize H1 = H at hP hS ⊢
        have hP : va_P g vwCl [(ra0, .inr (5, sr_ f1 f2 oa)), (oa, .inr (4, ov_ k1 k2 ba ca qm0 1)), (qm0, .inl (cI, 9, .inl mx))] H := hP
        have hD : va_D A [(ra0, .inr (5, sr_ f1 f2 oa)), (oa, .inr (4, ov_ k1 k2 ba ca qm0 1)), (qm0, .inl (cI, 9, .inl mx))] := hD
        refine lv_if_eq (tgt := 162) hx hb dX5_is_145 (by decide) (fun x1 => ?_) (fun x1 => ?_)
        · refine lv_iconst (v := 0) hx hb dX5_is_162 (by decide) ?_
          refine W.widen (k := 1) (n := 6) (by omega) (by omega) ?_
          have hP9 := hP.sub (ws' := [(ra0, .inr (5, sr_ f1 f2 oa)), (oa, .inr (4, ov_ k1 k2 ba ca qm0 1)), (qm0, .inl (cI, 9, .inl mx))]) [0, 1, 2] rfl
          have hD9 := hD.sub (ws' := [(ra0, .inr (5, sr_ f1 f2 oa)), (oa, .inr (4, ov_ k1 k2 ba ca qm0 1)), (qm0, .inl (cI, 9, .inl mx))]) [0, 1, 2] (by decide) rfl
          refine vx_ret ?_
          exact W.zret (v := 0) (ty := .boolean) hx hb hr (by decide +kernel) (fun t ht hW => ⟨⟨0, (), rfl, ⟨n1, by (try simp only [ht1] at x1); simp [isc_, x1, ht1]⟩, by rw [ht]; exact hP9, va_K.moved hW.alike hK, hD9⟩, hS.F ht⟩) hS.2.2 dX5_is_163
        · refine lv_aload_n hx hb dX5_is_148 rfl (lv_at hl 0 rfl) ?_
          refine va_get (D := g) (ci := 5) (v := .ref oa) (C := RX5) (T := TX5) (N := 3) hx hb hts hiX5 hown hK hP 0 rfl rfl 2 (by decide) (hts (.fieldLink RX5 24 "ShapeRelator" "overlay" "LShapeRelator$Overlay;") (List.mem_of_getElem? (i := 3) rfl)) (fun _ h9 => h9) rfl dX5_is_149 ?_
          have hPc := hP.sub (ws' := [(oa, .inr (4, ov_ k1 k2 ba ca qm0 1)), (qm0, .inl (cI, 9, .inl mx))]) [1, 2] rfl
          have hDc := hD.sub (ws' := [(oa, .inr (4, ov_ k1 k2 ba ca qm0 1)), (qm0, .inl (cI, 9, .inl mx))]) [1, 2] (by decide) rfl
          have hFc := va_free (wc := [(oa, .inr (4, ov_ k1 k2 ba ca qm0 1)), (qm0, .inl (cI, 9, .inl mx))]) hD hS hA [1, 2] rfl
          refine va_calli (va_runV (As := []) (rest := []) ⟨hx, hb, hml, hown, hts⟩ (kX4_firstLeavesSecond l g cI cJ cZ H.size oa k1 k2 ba ca qm0 1 mx) (cwV 0 hts gX5_is_X4_firstLeavesSecond rfl rfl rfl (by decide +kernel) ⟨Nat.le_of_ble_eq_true rfl, Nat.le_of_ble_eq_true rfl⟩) (pv_ hK hPc hDc (va_recv hK hPc (ci := 4) (q0 := 0) rfl rfl)) rfl rfl hl.1 rfl (lv_room (Nat.le_of_ble_eq_true rfl)) dX5_is_152 ⟨Nat.zero_le _, Nat.zero_le _⟩) hS (fun q _ h => hFc q h) hFc (fun t2 u t H1 locs ht hvm ht2 hB hz1 hk1 hS => ?_)
          obtain ⟨hP1, hK1, hD1⟩ := hB
          rw [ht] at hP1
          obtain ⟨hP, hD⟩ := va_join (wr := [(ra0, .inr (5, sr_ f1 f2 oa))]) (w1 := [(oa, .inr (4, ov_ k1 k2 ba ca qm0 1)), (qm0, .inl (cI, 9, .inl mx))]) hP hD [1, 2] [0] rfl rfl (by decide) (by decide) hk1 hFc hP1 hD1
          clear hPc hDc hFc hP1 hD1 hK1 hk1 hz1 hvm ht
          generalize H1 = H at hP hS ⊢
          have hP : va_P g vwCl [(ra0, .inr (5, sr_ f1 f2 oa)), (oa, .inr (4, ov_ k1 k2 ba ca qm0 1)), (qm0, .inl (cI, 9, .inl mx))] H := hP
          have hD : va_D A [(ra0, .inr (5, sr_ f1 f2 oa)), (oa, .inr (4, ov_ k1 k2 ba ca qm0 1)), (qm0, .inl (cI, 9, .inl mx))] := hD
          refine lv_if_ne (tgt := 162) hx hb dX5_is_155 (by decide) (fun x2 => ?_) (fun x2 => ?_)
          · refine lv_iconst (v := 0) hx hb dX5_is_162 (by decide) ?_
            refine W.widen (k := 1) (n := 6) (by omega) (by omega) ?_
            have hP9 := hP.sub (ws' := [(ra0, .inr (5, sr_ f1 f2 oa)), (oa, .inr (4, ov_ k1 k2 ba ca qm0 1)), (qm0, .inl (cI, 9, .inl mx))]) [0, 1, 2] rfl
            have hD9 := hD.sub (ws' := [(ra0, .inr (5, sr_ f1 f2 oa)), (oa, .inr (4, ov_ k1 k2 ba ca qm0 1)), (qm0, .inl (cI, 9, .inl mx))]) [0, 1, 2] (by decide) rfl
            refine vx_ret ?_
            exact W.zret (v := 0) (ty := .boolean) hx hb hr (by decide +kernel) (fun t ht hW => ⟨⟨0, (), rfl, ⟨n1, by (try simp only [ht1, ht2] at x1 x2); simp [isc_, x1, x2, ht1, ht2]⟩, by rw [ht]; exact hP9, va_K.moved hW.alike hK, hD9⟩, hS.F ht⟩) hS.2.2 dX5_is_163
          · refine lv_iconst (v := 1) hx hb dX5_is_158 (by decide) ?_
            refine lv_goto (tgt := 163) hx hb dX5_is_159 (by decide) ?_
            refine W.widen (k := 1) (n := 6) (by omega) (by omega) ?_
            have hP9 := hP.sub (ws' := [(ra0, .inr (5, sr_ f1 f2 oa)), (oa, .inr (4, ov_ k1 k2 ba ca qm0 1)), (qm0, .inl (cI, 9, .inl mx))]) [0, 1, 2] rfl
            have hD9 := hD.sub (ws' := [(ra0, .inr (5, sr_ f1 f2 oa)), (oa, .inr (4, ov_ k1 k2 ba ca qm0 1)), (qm0, .inl (cI, 9, .inl mx))]) [0, 1, 2] (by decide) rfl
            refine vx_ret ?_
            exact W.zret (v := 1) (ty := .boolean) hx hb hr (by decide +kernel) (fun t ht hW => ⟨⟨1, (), rfl, ⟨n1, by (try simp only [ht1, ht2] at x1 x2); simp [isc_, x1, x2, ht1, ht2]⟩, by rw [ht]; exact hP9, va_K.moved hW.alike hK, hD9⟩, hS.F ht⟩) hS.2.2 dX5_is_163
      · subst hc
        have hl : lv_has ls 2 [(0, .ref ra0), (1, .int 5)] := hl
        refine lv_tableIn (off := 136) (tgt := 164) hx hb dX5_is_28 (by decide) (by decide) rfl (by decide) ?_
        refine lv_aload_n hx hb dX5_is_164 rfl (lv_at hl 0 rfl) ?_
        refine va_get (D := g) (ci := 5) (v := .ref oa) (C := RX5) (T := TX5) (N := 3) hx hb hts hiX5 hown hK hP 0 rfl rfl 2 (by decide) (hts (.fieldLink RX5 24 "ShapeRelator" "overlay" "LShapeRelator$Overlay;") (List.mem_of_getElem? (i := 3) rfl)) (fun _ h9 => h9) rfl dX5_is_165 ?_
        refine lv_iconst (v := 0) hx hb dX5_is_168 (by decide) ?_
        refine lv_iconst (v := 0) hx hb dX5_is_169 (by decide) ?_
        have hPc := hP.sub (ws' := [(oa, .inr (4, ov_ k1 k2 ba ca qm0 1)), (qm0, .inl (cI, 9, .inl mx))]) [2, 1] rfl
        have hDc := hD.sub (ws' := [(oa, .inr (4, ov_ k1 k2 ba ca qm0 1)), (qm0, .inl (cI, 9, .inl mx))]) [2, 1] (by decide) rfl
        have hFc := va_free (wc := [(oa, .inr (4, ov_ k1 k2 ba ca qm0 1)), (qm0, .inl (cI, 9, .inl mx))]) hD hS hA [2, 1] rfl
        refine va_calli (va_runV (As := [.int 0, .int 0]) (rest := []) ⟨hx, hb, hml, hown, hts⟩ (kX4_has l g cI cJ cZ H.size oa k1 k2 ba ca qm0 1 mx 0 0 t3_0 t3_0) (cwV 2 hts gX5_is_X4_has rfl rfl rfl (by decide +kernel) ⟨Nat.le_of_ble_eq_true rfl, Nat.le_of_ble_eq_true rfl⟩) (pv_ hK hPc hDc (va_recv hK hPc (ci := 4) (q0 := 0) rfl rfl)) rfl rfl hl.1 rfl (lv_room (Nat.le_of_ble_eq_true rfl)) dX5_is_170 ⟨Nat.zero_le _, Nat.zero_le _⟩) hS (fun q _ h => hFc q h) hFc (fun t1 u t H1 locs ht hvm ht1 hB hz1 hk1 hS => ?_)
        obtain ⟨hP1, hK1, hD1⟩ := hB
        rw [ht] at hP1
        obtain ⟨hP, hD⟩ := va_join (wr := [(ra0, .inr (5, sr_ f1 f2 oa))]) (w1 := [(oa, .inr (4, ov_ k1 k2 ba ca qm0 1)), (qm0, .inl (cI, 9, .inl mx))]) hP hD [2, 1] [0] rfl rfl (by decide) (by decide) hk1 hFc hP1 hD1
        clear hPc hDc hFc hP1 hD1 hK1 hk1 hz1 hvm ht
        generalize H1 = H at hP hS ⊢
        have hP : va_P g vwCl [(ra0, .inr (5, sr_ f1 f2 oa)), (oa, .inr (4, ov_ k1 k2 ba ca qm0 1)), (qm0, .inl (cI, 9, .inl mx))] H := hP
        have hD : va_D A [(ra0, .inr (5, sr_ f1 f2 oa)), (oa, .inr (4, ov_ k1 k2 ba ca qm0 1)), (qm0, .inl (cI, 9, .inl mx))] := hD
        refine lv_if_eq (tgt := 190) hx hb dX5_is_173 (by decide) (fun x1 => ?_) (fun x1 => ?_)
        · refine lv_iconst (v := 0) hx hb dX5_is_190 (by decide) ?_
          refine W.widen (k := 1) (n := 6) (by omega) (by omega) ?_
          have hP9 := hP.sub (ws' := [(ra0, .inr (5, sr_ f1 f2 oa)), (oa, .inr (4, ov_ k1 k2 ba ca qm0 1)), (qm0, .inl (cI, 9, .inl mx))]) [0, 1, 2] rfl
          have hD9 := hD.sub (ws' := [(ra0, .inr (5, sr_ f1 f2 oa)), (oa, .inr (4, ov_ k1 k2 ba ca qm0 1)), (qm0, .inl (cI, 9, .inl mx))]) [0, 1, 2] (by decide) rfl
          refine vx_ret ?_
          exact W.zret (v := 0) (ty := .boolean) hx hb hr (by decide +kernel) (fun t ht hW => ⟨⟨0, (), rfl, ⟨n1, by (try simp only [ht1] at x1); simp [isc_, x1, ht1]⟩, by rw [ht]; exact hP9, va_K.moved hW.alike hK, hD9⟩, hS.F ht⟩) hS.2.2 dX5_is_191
        · refine lv_aload_n hx hb dX5_is_176 rfl (lv_at hl 0 rfl) ?_
          refine va_get (D := g) (ci := 5) (v := .ref oa) (C := RX5) (T := TX5) (N := 3) hx hb hts hiX5 hown hK hP 0 rfl rfl 2 (by decide) (hts (.fieldLink RX5 24 "ShapeRelator" "overlay" "LShapeRelator$Overlay;") (List.mem_of_getElem? (i := 3) rfl)) (fun _ h9 => h9) rfl dX5_is_177 ?_
          have hPc := hP.sub (ws' := [(oa, .inr (4, ov_ k1 k2 ba ca qm0 1)), (qm0, .inl (cI, 9, .inl mx))]) [1, 2] rfl
          have hDc := hD.sub (ws' := [(oa, .inr (4, ov_ k1 k2 ba ca qm0 1)), (qm0, .inl (cI, 9, .inl mx))]) [1, 2] (by decide) rfl
          have hFc := va_free (wc := [(oa, .inr (4, ov_ k1 k2 ba ca qm0 1)), (qm0, .inl (cI, 9, .inl mx))]) hD hS hA [1, 2] rfl
          refine va_calli (va_runV (As := []) (rest := []) ⟨hx, hb, hml, hown, hts⟩ (kX4_secondLeavesFirst l g cI cJ cZ H.size oa k1 k2 ba ca qm0 1 mx) (cwV 0 hts gX5_is_X4_secondLeavesFirst rfl rfl rfl (by decide +kernel) ⟨Nat.le_of_ble_eq_true rfl, Nat.le_of_ble_eq_true rfl⟩) (pv_ hK hPc hDc (va_recv hK hPc (ci := 4) (q0 := 0) rfl rfl)) rfl rfl hl.1 rfl (lv_room (Nat.le_of_ble_eq_true rfl)) dX5_is_180 ⟨Nat.zero_le _, Nat.zero_le _⟩) hS (fun q _ h => hFc q h) hFc (fun t2 u t H1 locs ht hvm ht2 hB hz1 hk1 hS => ?_)
          obtain ⟨hP1, hK1, hD1⟩ := hB
          rw [ht] at hP1
          obtain ⟨hP, hD⟩ := va_join (wr := [(ra0, .inr (5, sr_ f1 f2 oa))]) (w1 := [(oa, .inr (4, ov_ k1 k2 ba ca qm0 1)), (qm0, .inl (cI, 9, .inl mx))]) hP hD [1, 2] [0] rfl rfl (by decide) (by decide) hk1 hFc hP1 hD1
          clear hPc hDc hFc hP1 hD1 hK1 hk1 hz1 hvm ht
          generalize H1 = H at hP hS ⊢
          have hP : va_P g vwCl [(ra0, .inr (5, sr_ f1 f2 oa)), (oa, .inr (4, ov_ k1 k2 ba ca qm0 1)), (qm0, .inl (cI, 9, .inl mx))] H := hP
          have hD : va_D A [(ra0, .inr (5, sr_ f1 f2 oa)), (oa, .inr (4, ov_ k1 k2 ba ca qm0 1)), (qm0, .inl (cI, 9, .inl mx))] := hD
          refine lv_if_ne (tgt := 190) hx hb dX5_is_183 (by decide) (fun x2 => ?_) (fun x2 => ?_)
          · refine lv_iconst (v := 0) hx hb dX5_is_190 (by decide) ?_
            refine W.widen (k := 1) (n := 6) (by omega) (by omega) ?_
            have hP9 := hP.sub (ws' := [(ra0, .inr (5, sr_ f1 f2 oa)), (oa, .inr (4, ov_ k1 k2 ba ca qm0 1)), (qm0, .inl (cI, 9, .inl mx))]) [0, 1, 2] rfl
            have hD9 := hD.sub (ws' := [(ra0, .inr (5, sr_ f1 f2 oa)), (oa, .inr (4, ov_ k1 k2 ba ca qm0 1)), (qm0, .inl (cI, 9, .inl mx))]) [0, 1, 2] (by decide) rfl
            refine vx_ret ?_
            exact W.zret (v := 0) (ty := .boolean) hx hb hr (by decide +kernel) (fun t ht hW => ⟨⟨0, (), rfl, ⟨n1, by (try simp only [ht1, ht2] at x1 x2); simp [isc_, x1, x2, ht1, ht2]⟩, by rw [ht]; exact hP9, va_K.moved hW.alike hK, hD9⟩, hS.F ht⟩) hS.2.2 dX5_is_191
          · refine lv_iconst (v := 1) hx hb dX5_is_186 (by decide) ?_
            refine lv_goto (tgt := 191) hx hb dX5_is_187 (by decide) ?_
            refine W.widen (k := 1) (n := 6) (by omega) (by omega) ?_
            have hP9 := hP.sub (ws' := [(ra0, .inr (5, sr_ f1 f2 oa)), (oa, .inr (4, ov_ k1 k2 ba ca qm0 1)), (qm0, .inl (cI, 9, .inl mx))]) [0, 1, 2] rfl
            have hD9 := hD.sub (ws' := [(ra0, .inr (5, sr_ f1 f2 oa)), (oa, .inr (4, ov_ k1 k2 ba ca qm0 1)), (qm0, .inl (cI, 9, .inl mx))]) [0, 1, 2] (by decide) rfl
            refine vx_ret ?_
            exact W.zret (v := 1) (ty := .boolean) hx hb hr (by decide +kernel) (fun t ht hW => ⟨⟨1, (), rfl, ⟨n1, by (try simp only [ht1, ht2] at x1 x2); simp [isc_, x1, x2, ht1, ht2]⟩, by rw [ht]; exact hP9, va_K.moved hW.alike hK, hD9⟩, hS.F ht⟩) hS.2.2 dX5_is_191
      · subst hc
        have hl : lv_has ls 2 [(0, .ref ra0), (1, .int 6)] := hl
        refine lv_tableIn (off := 164) (tgt := 192) hx hb dX5_is_28 (by decide) (by decide) rfl (by decide) ?_
        refine lv_aload_n hx hb dX5_is_192 rfl (lv_at hl 0 rfl) ?_
        refine va_get (D := g) (ci := 5) (v := .ref oa) (C := RX5) (T := TX5) (N := 3) hx hb hts hiX5 hown hK hP 0 rfl rfl 2 (by decide) (hts (.fieldLink RX5 24 "ShapeRelator" "overlay" "LShapeRelator$Overlay;") (List.mem_of_getElem? (i := 3) rfl)) (fun _ h9 => h9) rfl dX5_is_193 ?_
        have hPc := hP.sub (ws' := [(oa, .inr (4, ov_ k1 k2 ba ca qm0 1)), (qm0, .inl (cI, 9, .inl mx))]) [2, 1] rfl
        have hDc := hD.sub (ws' := [(oa, .inr (4, ov_ k1 k2 ba ca qm0 1)), (qm0, .inl (cI, 9, .inl mx))]) [2, 1] (by decide) rfl
        have hFc := va_free (wc := [(oa, .inr (4, ov_ k1 k2 ba ca qm0 1)), (qm0, .inl (cI, 9, .inl mx))]) hD hS hA [2, 1] rfl
        refine va_calli (va_runV (As := []) (rest := []) ⟨hx, hb, hml, hown, hts⟩ (kX4_doOverlap l g cI cJ cZ H.size oa k1 k2 ba ca qm0 1 mx) (cwV 0 hts gX5_is_X4_doOverlap rfl rfl rfl (by decide +kernel) ⟨Nat.le_of_ble_eq_true rfl, Nat.le_of_ble_eq_true rfl⟩) (pv_ hK hPc hDc (va_recv hK hPc (ci := 4) (q0 := 0) rfl rfl)) rfl rfl hl.1 rfl (lv_room (Nat.le_of_ble_eq_true rfl)) dX5_is_196 ⟨Nat.zero_le _, Nat.zero_le _⟩) hS (fun q _ h => hFc q h) hFc (fun t1 u t H1 locs ht hvm ht1 hB hz1 hk1 hS => ?_)
        obtain ⟨hP1, hK1, hD1⟩ := hB
        rw [ht] at hP1
        obtain ⟨hP, hD⟩ := va_join (wr := [(ra0, .inr (5, sr_ f1 f2 oa))]) (w1 := [(oa, .inr (4, ov_ k1 k2 ba ca qm0 1)), (qm0, .inl (cI, 9, .inl mx))]) hP hD [2, 1] [0] rfl rfl (by decide) (by decide) hk1 hFc hP1 hD1
        clear hPc hDc hFc hP1 hD1 hK1 hk1 hz1 hvm ht
        generalize H1 = H at hP hS ⊢
        have hP : va_P g vwCl [(ra0, .inr (5, sr_ f1 f2 oa)), (oa, .inr (4, ov_ k1 k2 ba ca qm0 1)), (qm0, .inl (cI, 9, .inl mx))] H := hP
        have hD : va_D A [(ra0, .inr (5, sr_ f1 f2 oa)), (oa, .inr (4, ov_ k1 k2 ba ca qm0 1)), (qm0, .inl (cI, 9, .inl mx))] := hD
        refine W.widen (k := 1) (n := 6) (by omega) (by omega) ?_
        have hP9 := hP.sub (ws' := [(ra0, .inr (5, sr_ f1 f2 oa)), (oa, .inr (4, ov_ k1 k2 ba ca qm0 1)), (qm0, .inl (cI, 9, .inl mx))]) [0, 1, 2] rfl
        have hD9 := hD.sub (ws' := [(ra0, .inr (5, sr_ f1 f2 oa)), (oa, .inr (4, ov_ k1 k2 ba ca qm0 1)), (qm0, .inl (cI, 9, .inl mx))]) [0, 1, 2] (by decide) rfl
        refine vx_ret ?_
        exact W.zret (v := t1) (ty := .boolean) hx hb hr (by rw [ht1]; exact dov_z) (fun t ht hW => ⟨⟨t1, (), rfl, ⟨n1, by rw [ht1]; rfl⟩, by rw [ht]; exact hP9, va_K.moved hW.alike hK, hD9⟩, hS.F ht⟩) hS.2.2 dX5_is_199
      · subst hc
        have hl : lv_has ls 2 [(0, .ref ra0), (1, .int 7)] := hl
        refine lv_tableIn (off := 172) (tgt := 200) hx hb dX5_is_28 (by decide) (by decide) rfl (by decide) ?_
        refine lv_aload_n hx hb dX5_is_200 rfl (lv_at hl 0 rfl) ?_
        refine va_get (D := g) (ci := 5) (v := .ref oa) (C := RX5) (T := TX5) (N := 3) hx hb hts hiX5 hown hK hP 0 rfl rfl 2 (by decide) (hts (.fieldLink RX5 24 "ShapeRelator" "overlay" "LShapeRelator$Overlay;") (List.mem_of_getElem? (i := 3) rfl)) (fun _ h9 => h9) rfl dX5_is_201 ?_
        have hPc := hP.sub (ws' := [(oa, .inr (4, ov_ k1 k2 ba ca qm0 1)), (qm0, .inl (cI, 9, .inl mx))]) [2, 1] rfl
        have hDc := hD.sub (ws' := [(oa, .inr (4, ov_ k1 k2 ba ca qm0 1)), (qm0, .inl (cI, 9, .inl mx))]) [2, 1] (by decide) rfl
        have hFc := va_free (wc := [(oa, .inr (4, ov_ k1 k2 ba ca qm0 1)), (qm0, .inl (cI, 9, .inl mx))]) hD hS hA [2, 1] rfl
        refine va_calli (va_runV (As := []) (rest := []) ⟨hx, hb, hml, hown, hts⟩ (kX4_haveCommonPlace l g cI cJ cZ H.size oa k1 k2 ba ca qm0 1 mx) (cwV 0 hts gX5_is_X4_haveCommonPlace rfl rfl rfl (by decide +kernel) ⟨Nat.le_of_ble_eq_true rfl, Nat.le_of_ble_eq_true rfl⟩) (pv_ hK hPc hDc (va_recv hK hPc (ci := 4) (q0 := 0) rfl rfl)) rfl rfl hl.1 rfl (lv_room (Nat.le_of_ble_eq_true rfl)) dX5_is_204 ⟨Nat.zero_le _, Nat.zero_le _⟩) hS (fun q _ h => hFc q h) hFc (fun t1 u t H1 locs ht hvm ht1 hB hz1 hk1 hS => ?_)
        obtain ⟨hP1, hK1, hD1⟩ := hB
        rw [ht] at hP1
        obtain ⟨hP, hD⟩ := va_join (wr := [(ra0, .inr (5, sr_ f1 f2 oa))]) (w1 := [(oa, .inr (4, ov_ k1 k2 ba ca qm0 1)), (qm0, .inl (cI, 9, .inl mx))]) hP hD [2, 1] [0] rfl rfl (by decide) (by decide) hk1 hFc hP1 hD1
        clear hPc hDc hFc hP1 hD1 hK1 hk1 hz1 hvm ht
        generalize H1 = H at hP hS ⊢
        have hP : va_P g vwCl [(ra0, .inr (5, sr_ f1 f2 oa)), (oa, .inr (4, ov_ k1 k2 ba ca qm0 1)), (qm0, .inl (cI, 9, .inl mx))] H := hP
        have hD : va_D A [(ra0, .inr (5, sr_ f1 f2 oa)), (oa, .inr (4, ov_ k1 k2 ba ca qm0 1)), (qm0, .inl (cI, 9, .inl mx))] := hD
        refine lv_if_eq (tgt := 224) hx hb dX5_is_207 (by decide) (fun x1 => ?_) (fun x1 => ?_)
        · refine lv_iconst (v := 0) hx hb dX5_is_224 (by decide) ?_
          refine W.widen (k := 1) (n := 6) (by omega) (by omega) ?_
          have hP9 := hP.sub (ws' := [(ra0, .inr (5, sr_ f1 f2 oa)), (oa, .inr (4, ov_ k1 k2 ba ca qm0 1)), (qm0, .inl (cI, 9, .inl mx))]) [0, 1, 2] rfl
          have hD9 := hD.sub (ws' := [(ra0, .inr (5, sr_ f1 f2 oa)), (oa, .inr (4, ov_ k1 k2 ba ca qm0 1)), (qm0, .inl (cI, 9, .inl mx))]) [0, 1, 2] (by decide) rfl
          refine vx_ret ?_
          exact W.zret (v := 0) (ty := .boolean) hx hb hr (by decide +kernel) (fun t ht hW => ⟨⟨0, (), rfl, ⟨n1, by (try simp only [ht1] at x1); simp [isc_, x1, ht1]⟩, by rw [ht]; exact hP9, va_K.moved hW.alike hK, hD9⟩, hS.F ht⟩) hS.2.2 dX5_is_225
        · refine lv_aload_n hx hb dX5_is_210 rfl (lv_at hl 0 rfl) ?_
          refine va_get (D := g) (ci := 5) (v := .ref oa) (C := RX5) (T := TX5) (N := 3) hx hb hts hiX5 hown hK hP 0 rfl rfl 2 (by decide) (hts (.fieldLink RX5 24 "ShapeRelator" "overlay" "LShapeRelator$Overlay;") (List.mem_of_getElem? (i := 3) rfl)) (fun _ h9 => h9) rfl dX5_is_211 ?_
          have hPc := hP.sub (ws' := [(oa, .inr (4, ov_ k1 k2 ba ca qm0 1)), (qm0, .inl (cI, 9, .inl mx))]) [1, 2] rfl
          have hDc := hD.sub (ws' := [(oa, .inr (4, ov_ k1 k2 ba ca qm0 1)), (qm0, .inl (cI, 9, .inl mx))]) [1, 2] (by decide) rfl
          have hFc := va_free (wc := [(oa, .inr (4, ov_ k1 k2 ba ca qm0 1)), (qm0, .inl (cI, 9, .inl mx))]) hD hS hA [1, 2] rfl
          refine va_calli (va_runV (As := []) (rest := []) ⟨hx, hb, hml, hown, hts⟩ (kX4_firstLeavesSecond l g cI cJ cZ H.size oa k1 k2 ba ca qm0 1 mx) (cwV 0 hts gX5_is_X4_firstLeavesSecond rfl rfl rfl (by decide +kernel) ⟨Nat.le_of_ble_eq_true rfl, Nat.le_of_ble_eq_true rfl⟩) (pv_ hK hPc hDc (va_recv hK hPc (ci := 4) (q0 := 0) rfl rfl)) rfl rfl hl.1 rfl (lv_room (Nat.le_of_ble_eq_true rfl)) dX5_is_214 ⟨Nat.zero_le _, Nat.zero_le _⟩) hS (fun q _ h => hFc q h) hFc (fun t2 u t H1 locs ht hvm ht2 hB hz1 hk1 hS => ?_)
          obtain ⟨hP1, hK1, hD1⟩ := hB
          rw [ht] at hP1
          obtain ⟨hP, hD⟩ := va_join (wr := [(ra0, .inr (5, sr_ f1 f2 oa))]) (w1 := [(oa, .inr (4, ov_ k1 k2 ba ca qm0 1)), (qm0, .inl (cI, 9, .inl mx))]) hP hD [1, 2] [0] rfl rfl (by decide) (by decide) hk1 hFc hP1 hD1
          clear hPc hDc hFc hP1 hD1 hK1 hk1 hz1 hvm ht
          generalize H1 = H at hP hS ⊢
          have hP : va_P g vwCl [(ra0, .inr (5, sr_ f1 f2 oa)), (oa, .inr (4, ov_ k1 k2 ba ca qm0 1)), (qm0, .inl (cI, 9, .inl mx))] H := hP
          have hD : va_D A [(ra0, .inr (5, sr_ f1 f2 oa)), (oa, .inr (4, ov_ k1 k2 ba ca qm0 1)), (qm0, .inl (cI, 9, .inl mx))] := hD
          refine lv_if_ne (tgt := 224) hx hb dX5_is_217 (by decide) (fun x2 => ?_) (fun x2 => ?_)
          · refine lv_iconst (v := 0) hx hb dX5_is_224 (by decide) ?_
            refine W.widen (k := 1) (n := 6) (by omega) (by omega) ?_
            have hP9 := hP.sub (ws' := [(ra0, .inr (5, sr_ f1 f2 oa)), (oa, .inr (4, ov_ k1 k2 ba ca qm0 1)), (qm0, .inl (cI, 9, .inl mx))]) [0, 1, 2] rfl
            have hD9 := hD.sub (ws' := [(ra0, .inr (5, sr_ f1 f2 oa)), (oa, .inr (4, ov_ k1 k2 ba ca qm0 1)), (qm0, .inl (cI, 9, .inl mx))]) [0, 1, 2] (by decide) rfl
            refine vx_ret ?_
            exact W.zret (v := 0) (ty := .boolean) hx hb hr (by decide +kernel) (fun t ht hW => ⟨⟨0, (), rfl, ⟨n1, by (try simp only [ht1, ht2] at x1 x2); simp [isc_, x1, x2, ht1, ht2]⟩, by rw [ht]; exact hP9, va_K.moved hW.alike hK, hD9⟩, hS.F ht⟩) hS.2.2 dX5_is_225
          · refine lv_iconst (v := 1) hx hb dX5_is_220 (by decide) ?_
            refine lv_goto (tgt := 225) hx hb dX5_is_221 (by decide) ?_
            refine W.widen (k := 1) (n := 6) (by omega) (by omega) ?_
            have hP9 := hP.sub (ws' := [(ra0, .inr (5, sr_ f1 f2 oa)), (oa, .inr (4, ov_ k1 k2 ba ca qm0 1)), (qm0, .inl (cI, 9, .inl mx))]) [0, 1, 2] rfl
            have hD9 := hD.sub (ws' := [(ra0, .inr (5, sr_ f1 f2 oa)), (oa, .inr (4, ov_ k1 k2 ba ca qm0 1)), (qm0, .inl (cI, 9, .inl mx))]) [0, 1, 2] (by decide) rfl
            refine vx_ret ?_
            exact W.zret (v := 1) (ty := .boolean) hx hb hr (by decide +kernel) (fun t ht hW => ⟨⟨1, (), rfl, ⟨n1, by (try simp only [ht1, ht2] at x1 x2); simp [isc_, x1, x2, ht1, ht2]⟩, by rw [ht]; exact hP9, va_K.moved hW.alike hK, hD9⟩, hS.F ht⟩) hS.2.2 dX5_is_225
      · subst hc
        have hl : lv_has ls 2 [(0, .ref ra0), (1, .int 8)] := hl
        refine lv_tableOut (tgt := 226) hx hb dX5_is_28 (by decide) (by decide) ?_
        refine lv_aload_n hx hb dX5_is_226 rfl (lv_at hl 0 rfl) ?_
        refine va_get (D := g) (ci := 5) (v := .ref oa) (C := RX5) (T := TX5) (N := 3) hx hb hts hiX5 hown hK hP 0 rfl rfl 2 (by decide) (hts (.fieldLink RX5 24 "ShapeRelator" "overlay" "LShapeRelator$Overlay;") (List.mem_of_getElem? (i := 3) rfl)) (fun _ h9 => h9) rfl dX5_is_227 ?_
        have hPc := hP.sub (ws' := [(oa, .inr (4, ov_ k1 k2 ba ca qm0 1)), (qm0, .inl (cI, 9, .inl mx))]) [2, 1] rfl
        have hDc := hD.sub (ws' := [(oa, .inr (4, ov_ k1 k2 ba ca qm0 1)), (qm0, .inl (cI, 9, .inl mx))]) [2, 1] (by decide) rfl
        have hFc := va_free (wc := [(oa, .inr (4, ov_ k1 k2 ba ca qm0 1)), (qm0, .inl (cI, 9, .inl mx))]) hD hS hA [2, 1] rfl
        refine va_calli (va_runV (As := []) (rest := []) ⟨hx, hb, hml, hown, hts⟩ (kX4_haveCommonPlace l g cI cJ cZ H.size oa k1 k2 ba ca qm0 1 mx) (cwV 0 hts gX5_is_X4_haveCommonPlace rfl rfl rfl (by decide +kernel) ⟨Nat.le_of_ble_eq_true rfl, Nat.le_of_ble_eq_true rfl⟩) (pv_ hK hPc hDc (va_recv hK hPc (ci := 4) (q0 := 0) rfl rfl)) rfl rfl hl.1 rfl (lv_room (Nat.le_of_ble_eq_true rfl)) dX5_is_230 ⟨Nat.zero_le _, Nat.zero_le _⟩) hS (fun q _ h => hFc q h) hFc (fun t1 u t H1 locs ht hvm ht1 hB hz1 hk1 hS => ?_)
        obtain ⟨hP1, hK1, hD1⟩ := hB
        rw [ht] at hP1
        obtain ⟨hP, hD⟩ := va_join (wr := [(ra0, .inr (5, sr_ f1 f2 oa))]) (w1 := [(oa, .inr (4, ov_ k1 k2 ba ca qm0 1)), (qm0, .inl (cI, 9, .inl mx))]) hP hD [2, 1] [0] rfl rfl (by decide) (by decide) hk1 hFc hP1 hD1
        clear hPc hDc hFc hP1 hD1 hK1 hk1 hz1 hvm ht
        generalize H1 = H at hP hS ⊢
        have hP : va_P g vwCl [(ra0, .inr (5, sr_ f1 f2 oa)), (oa, .inr (4, ov_ k1 k2 ba ca qm0 1)), (qm0, .inl (cI, 9, .inl mx))] H := hP
        have hD : va_D A [(ra0, .inr (5, sr_ f1 f2 oa)), (oa, .inr (4, ov_ k1 k2 ba ca qm0 1)), (qm0, .inl (cI, 9, .inl mx))] := hD
        refine lv_if_eq (tgt := 250) hx hb dX5_is_233 (by decide) (fun x1 => ?_) (fun x1 => ?_)
        · refine lv_iconst (v := 0) hx hb dX5_is_250 (by decide) ?_
          refine W.widen (k := 1) (n := 6) (by omega) (by omega) ?_
          have hP9 := hP.sub (ws' := [(ra0, .inr (5, sr_ f1 f2 oa)), (oa, .inr (4, ov_ k1 k2 ba ca qm0 1)), (qm0, .inl (cI, 9, .inl mx))]) [0, 1, 2] rfl
          have hD9 := hD.sub (ws' := [(ra0, .inr (5, sr_ f1 f2 oa)), (oa, .inr (4, ov_ k1 k2 ba ca qm0 1)), (qm0, .inl (cI, 9, .inl mx))]) [0, 1, 2] (by decide) rfl
          refine vx_ret ?_
          exact W.zret (v := 0) (ty := .boolean) hx hb hr (by decide +kernel) (fun t ht hW => ⟨⟨0, (), rfl, ⟨n1, by (try simp only [ht1] at x1); simp [isc_, x1, ht1]⟩, by rw [ht]; exact hP9, va_K.moved hW.alike hK, hD9⟩, hS.F ht⟩) hS.2.2 dX5_is_251
        · refine lv_aload_n hx hb dX5_is_236 rfl (lv_at hl 0 rfl) ?_
          refine va_get (D := g) (ci := 5) (v := .ref oa) (C := RX5) (T := TX5) (N := 3) hx hb hts hiX5 hown hK hP 0 rfl rfl 2 (by decide) (hts (.fieldLink RX5 24 "ShapeRelator" "overlay" "LShapeRelator$Overlay;") (List.mem_of_getElem? (i := 3) rfl)) (fun _ h9 => h9) rfl dX5_is_237 ?_
          have hPc := hP.sub (ws' := [(oa, .inr (4, ov_ k1 k2 ba ca qm0 1)), (qm0, .inl (cI, 9, .inl mx))]) [1, 2] rfl
          have hDc := hD.sub (ws' := [(oa, .inr (4, ov_ k1 k2 ba ca qm0 1)), (qm0, .inl (cI, 9, .inl mx))]) [1, 2] (by decide) rfl
          have hFc := va_free (wc := [(oa, .inr (4, ov_ k1 k2 ba ca qm0 1)), (qm0, .inl (cI, 9, .inl mx))]) hD hS hA [1, 2] rfl
          refine va_calli (va_runV (As := []) (rest := []) ⟨hx, hb, hml, hown, hts⟩ (kX4_secondLeavesFirst l g cI cJ cZ H.size oa k1 k2 ba ca qm0 1 mx) (cwV 0 hts gX5_is_X4_secondLeavesFirst rfl rfl rfl (by decide +kernel) ⟨Nat.le_of_ble_eq_true rfl, Nat.le_of_ble_eq_true rfl⟩) (pv_ hK hPc hDc (va_recv hK hPc (ci := 4) (q0 := 0) rfl rfl)) rfl rfl hl.1 rfl (lv_room (Nat.le_of_ble_eq_true rfl)) dX5_is_240 ⟨Nat.zero_le _, Nat.zero_le _⟩) hS (fun q _ h => hFc q h) hFc (fun t2 u t H1 locs ht hvm ht2 hB hz1 hk1 hS => ?_)
          obtain ⟨hP1, hK1, hD1⟩ := hB
          rw [ht] at hP1
          obtain ⟨hP, hD⟩ := va_join (wr := [(ra0, .inr (5, sr_ f1 f2 oa))]) (w1 := [(oa, .inr (4, ov_ k1 k2 ba ca qm0 1)), (qm0, .inl (cI, 9, .inl mx))]) hP hD [1, 2] [0] rfl rfl (by decide) (by decide) hk1 hFc hP1 hD1
          clear hPc hDc hFc hP1 hD1 hK1 hk1 hz1 hvm ht
          generalize H1 = H at hP hS ⊢
          have hP : va_P g vwCl [(ra0, .inr (5, sr_ f1 f2 oa)), (oa, .inr (4, ov_ k1 k2 ba ca qm0 1)), (qm0, .inl (cI, 9, .inl mx))] H := hP
          have hD : va_D A [(ra0, .inr (5, sr_ f1 f2 oa)), (oa, .inr (4, ov_ k1 k2 ba ca qm0 1)), (qm0, .inl (cI, 9, .inl mx))] := hD
          refine lv_if_ne (tgt := 250) hx hb dX5_is_243 (by decide) (fun x2 => ?_) (fun x2 => ?_)
          · refine lv_iconst (v := 0) hx hb dX5_is_250 (by decide) ?_
            refine W.widen (k := 1) (n := 6) (by omega) (by omega) ?_
            have hP9 := hP.sub (ws' := [(ra0, .inr (5, sr_ f1 f2 oa)), (oa, .inr (4, ov_ k1 k2 ba ca qm0 1)), (qm0, .inl (cI, 9, .inl mx))]) [0, 1, 2] rfl
            have hD9 := hD.sub (ws' := [(ra0, .inr (5, sr_ f1 f2 oa)), (oa, .inr (4, ov_ k1 k2 ba ca qm0 1)), (qm0, .inl (cI, 9, .inl mx))]) [0, 1, 2] (by decide) rfl
            refine vx_ret ?_
            exact W.zret (v := 0) (ty := .boolean) hx hb hr (by decide +kernel) (fun t ht hW => ⟨⟨0, (), rfl, ⟨n1, by (try simp only [ht1, ht2] at x1 x2); simp [isc_, x1, x2, ht1, ht2]⟩, by rw [ht]; exact hP9, va_K.moved hW.alike hK, hD9⟩, hS.F ht⟩) hS.2.2 dX5_is_251
          · refine lv_iconst (v := 1) hx hb dX5_is_246 (by decide) ?_
            refine lv_goto (tgt := 251) hx hb dX5_is_247 (by decide) ?_
            refine W.widen (k := 1) (n := 6) (by omega) (by omega) ?_
            have hP9 := hP.sub (ws' := [(ra0, .inr (5, sr_ f1 f2 oa)), (oa, .inr (4, ov_ k1 k2 ba ca qm0 1)), (qm0, .inl (cI, 9, .inl mx))]) [0, 1, 2] rfl
            have hD9 := hD.sub (ws' := [(ra0, .inr (5, sr_ f1 f2 oa)), (oa, .inr (4, ov_ k1 k2 ba ca qm0 1)), (qm0, .inl (cI, 9, .inl mx))]) [0, 1, 2] (by decide) rfl
            refine vx_ret ?_
            exact W.zret (v := 1) (ty := .boolean) hx hb hr (by decide +kernel) (fun t ht hW => ⟨⟨1, (), rfl, ⟨n1, by (try simp only [ht1, ht2] at x1 x2); simp [isc_, x1, x2, ht1, ht2]⟩, by rw [ht]; exact hP9, va_K.moved hW.alike hK, hD9⟩, hS.F ht⟩) hS.2.2 dX5_is_251
    · have hP9 := hP.sub (ws' := [(ra0, .inr (5, sr_ f1 f2 oa)), (oa, .inr (4, ov_ k1 k2 ba ca qm0 1)), (qm0, .inl (cI, 9, .inl mx))]) [0, 1, 2] rfl
      have hD9 := hD.sub (ws' := [(ra0, .inr (5, sr_ f1 f2 oa)), (oa, .inr (4, ov_ k1 k2 ba ca qm0 1)), (qm0, .inl (cI, 9, .inl mx))]) [0, 1, 2] (by decide) rfl
      obtain ⟨sa, hsa⟩ := hev.1.2.1 (90, "no such question") (List.mem_of_getElem? (i := 7) rfl)
      exact vx_throwS (A := A) (names := nm2_) (cls := "java/lang/IndexOutOfBoundsException") hx hb hlt hown fi1_ fin_ (hts (.classLink RX5 85 "java/lang/IndexOutOfBoundsException") (List.mem_of_getElem? (i := 1) rfl)) (hts (.initialized "java/lang/IndexOutOfBoundsException") (List.mem_of_getElem? (i := 2) rfl)) hsa (vx_hat (B := evB_) (fun w hw => hts w (List.mem_cons_of_mem _ (List.mem_append_right _ hw))) nb1_ (evB_u hev.1)) go1_ hev.2.1 hev.2.2 hS (hl.1.trans hml.symm) dX5_is_10 dX5_is_13 dX5_is_14 dX5_is_16 dX5_is_19 (fun x hx9 => (hnx x hx9).elim) (Nat.le_of_ble_eq_true rfl) (Nat.le_of_ble_eq_true rfl) (by show 0 + 1 ≤ 1; omega) (by show 0 + 6 ≤ 6; omega) hlocks (fun t hvm hz hq => ⟨(), trivial, ⟨⟨rfl, (wi2_ (Int32.not_le.mp c2)).symm⟩, vp_k hP9 hq, va_K.moved hvm hK, hD9⟩, vf_k hS hz hq⟩) hS.2.2 (by show 0 + 1 ≤ 1; omega) (by show 0 + 6 ≤ 6; omega)
end
