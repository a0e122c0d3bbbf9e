section
theorem ikX5_shape0_X3 : ∀ w ∈ wsX30, w ∈ wsX5_shape := by decide +kernel
theorem ikX5_shape0_X5 : ∀ w ∈ wsX50, w ∈ wsX5_shape := by decide +kernel
set_option maxHeartbeats 1000000 in
set_option maxRecDepth 100000 in
theorem kX5_shape0 (l : Launch) (g : va_G) (cI cJ cZ : ClassId) (sz : Nat) (hlt : l.stackTraces = false) (ra0 : Nat) (fa : Nat) (fb : Nat) (oa : Nat) (kd : Int32) (pn : Int32) (pt : Int32) (qx : Nat) (qy : Nat) (qs : Nat) (pr : Int32) (sc : Int32) (qt : Nat) (qh : Nat) (mn : Int32) (qm : Nat) (qd : Nat) (k1 : Nat) (k2 : Nat) (ba : Nat) (ca : Nat) (qm0 : Nat) (fr : Int32) (kv : Int32)  : vx_Met l yX5_shape wsX5_shape ({ frames := 7, cells := 2, slots := 12, locals := 103 }) (pce_ g cI cJ cZ [.ref ra0, .int 0, .int kv] [(ra0, .inr (5, sr_ fa fb oa)), (fa, .inr (3, fg_ kd pn pt qx qy qs pr sc qt qh mn qm qd)), (oa, .inr (4, ov_ k1 k2 ba ca qm0 fr))] sz) (va_Qi (fun (r : Int32) (_ : Unit) => ¬ wi_ kv 1 3 = 0 ∧ r = pt) (fun (_ : Unit) t => wd_ g cI cJ cZ (va_A [(ra0, .inr (5, sr_ fa fb oa)), (fa, .inr (3, fg_ kd pn pt qx qy qs pr sc qt qh mn qm qd)), (oa, .inr (4, ov_ k1 k2 ba ca qm0 fr))] sz) [(ra0, .inr (5, sr_ fa fb oa)), (fa, .inr (3, fg_ kv 0 0 qx qy qs 0 sc qt qh mn qm qd)), (oa, .inr (4, ov_ k1 k2 ba ca qm0 0))] t) (va_A [(ra0, .inr (5, sr_ fa fb oa)), (fa, .inr (3, fg_ kd pn pt qx qy qs pr sc qt qh mn qm qd)), (oa, .inr (4, ov_ k1 k2 ba ca qm0 fr))] sz)) (vx_X (fun _ : Unit => True) (fun E _ t => (E = "java/lang/IllegalArgumentException" ∧ wi_ kv 1 3 = 0) ∧ wd_ g cI cJ cZ (va_A [(ra0, .inr (5, sr_ fa fb oa)), (fa, .inr (3, fg_ kd pn pt qx qy qs pr sc qt qh mn qm qd)), (oa, .inr (4, ov_ k1 k2 ba ca qm0 fr))] sz) [(ra0, .inr (5, sr_ fa fb oa)), (fa, .inr (3, fg_ kd pn pt qx qy qs pr sc qt qh mn qm qd)), (oa, .inr (4, ov_ k1 k2 ba ca qm0 fr))] t) (va_A [(ra0, .inr (5, sr_ fa fb oa)), (fa, .inr (3, fg_ kd pn pt qx qy qs pr sc qt qh mn qm qd)), (oa, .inr (4, ov_ k1 k2 ba ca qm0 fr))] sz)) (2) (12) (va_A [(ra0, .inr (5, sr_ fa fb oa)), (fa, .inr (3, fg_ kd pn pt qx qy qs pr sc qt qh mn qm qd)), (oa, .inr (4, ov_ k1 k2 ba ca qm0 fr))] sz) := by
  refine vx_ofW (cc := cX5_shape) (maxL := 5) (ret := (some .int)) (by decide) rfl ?_
  intro p e s m args below meth c s₁ B hml hnx hv
  obtain ⟨rfl, ⟨hsz, hP, hK, hD0⟩, hev⟩ := hv
  have hx := B.exec
  have hb := B.bytes
  have hr := B.returns
  have hts := atoms_spec (ws := wsX5_shape) B.pre
  have hown : s.vm.findClass RX5 = some m.cls := findClass_of_methodNamed B.named
  have hlocks := B.notSynchronized
  subst hsz
  have hD := hD0.self (sz := s.heap.size)
  generalize hAe : va_A [(ra0, .inr (5, sr_ fa fb oa)), (fa, .inr (3, fg_ kd pn pt qx qy qs pr sc qt qh mn qm qd)), (oa, .inr (4, ov_ k1 k2 ba ca qm0 fr))] s.heap.size = A at hD hev ⊢
  have hA : ∀ q : Nat, s.heap.size ≤ q → A q := fun q h => by rw [← hAe]; exact Or.inr h
  have hS : va_S A s.heap s.heap [] := va_S.rf
  have hP : va_P g vwCl [(ra0, .inr (5, sr_ fa fb oa)), (fa, .inr (3, fg_ kd pn pt qx qy qs pr sc qt qh mn qm qd)), (oa, .inr (4, ov_ k1 k2 ba ca qm0 fr))] s.heap := hP
  have hl := lv_entry ([.ref ra0, .int 0, .int kv]) (n := 5) (Nat.le_of_ble_eq_true rfl)
  rw [lg_entry_eq]
  generalize (lg_sl ([.ref ra0, .int 0, .int kv]) ++ List.replicate (5 - (lg_sl ([.ref ra0, .int 0, .int kv])).length) Slot.unset).toArray = ls at hl ⊢
  have hl : lv_has ls 5 [(0, .ref ra0), (1, .int 0), (2, .int kv)] := hl
  have hH0 : s.heap = s.heap := rfl
  have hiX3 := ikX5_shape0_X3
  have hiX5 := ikX5_shape0_X5
  refine lv_aload_n hx hb dX5_shape_0 rfl (lv_at hl 0 rfl) ?_
  refine lv_iload_n hx hb dX5_shape_1 rfl (lv_at hl 1 rfl) ?_
  have hPc := hP.sub (ws' := [(ra0, .inr (5, sr_ fa fb oa))]) [0] rfl
  have hDc := hD.sub (ws' := [(ra0, .inr (5, sr_ fa fb oa))]) [0] (by decide) rfl
  have hFc := va_free (wc := [(ra0, .inr (5, sr_ fa fb oa))]) hD hS hA [0] rfl
  refine vx_callr (vx_runV (As := [.int 0]) (rest := []) ⟨hx, hb, hml, hown, hts⟩ (kX5_figureOf l g cI cJ cZ s.heap.size hlt ra0 fa fb oa 0 fa (fun _ => rfl) (fun h => absurd h (by decide))) (cwV 1 hts gX5_shape_X5_figureOf rfl rfl rfl (by decide +kernel) ⟨Nat.le_of_ble_eq_true rfl, Nat.le_of_ble_eq_true rfl⟩) (pve_ hev hS hFc hK hPc hDc (va_recv hK hPc (ci := 5) (q0 := 0) rfl rfl)) rfl rfl hl.1 rfl (lv_room (Nat.le_of_ble_eq_true rfl)) dX5_shape_2 ⟨by show 0 + 1 ≤ 2; omega, by show 0 + 6 ≤ 12; omega⟩) hS (fun q _ h => hFc q h) hFc (fun q _ h => hFc q h) (fun E ce q9 u t H1 locs ht hvm _ hBX hz1 hk1 hS hce hcv hcl => ?_) (fun u rg t H1 locs ht hvm hw hB hz1 hk1 hS => ?_)
  · obtain ⟨hE, hP1, hK1, hD1⟩ := hBX
    rw [ht] at hP1
    obtain ⟨hP, hD⟩ := va_join (wr := [(fa, .inr (3, fg_ kd pn pt qx qy qs pr sc qt qh mn qm qd)), (oa, .inr (4, ov_ k1 k2 ba ca qm0 fr))]) (w1 := [(ra0, .inr (5, sr_ fa fb oa))]) hP hD [0] [1, 2] rfl rfl (by decide) (by decide) hk1 hFc hP1 hD1
    clear hPc hDc hFc hP1 hD1 hK1 hk1 hz1 hvm ht
    generalize H1 = H at hP hS hce ⊢
    have hP : va_P g vwCl [(fa, .inr (3, fg_ kd pn pt qx qy qs pr sc qt qh mn qm qd)), (oa, .inr (4, ov_ k1 k2 ba ca qm0 fr)), (ra0, .inr (5, sr_ fa fb oa))] H := hP
    have hD : va_D A [(fa, .inr (3, fg_ kd pn pt qx qy qs pr sc qt qh mn qm qd)), (oa, .inr (4, ov_ k1 k2 ba ca qm0 fr)), (ra0, .inr (5, sr_ fa fb oa))] := hD
    exact absurd rfl hE.2.1
  · obtain ⟨hra, hP1, hK1, hD1⟩ := hB
    rw [ht] at hP1
    obtain ⟨hP, hD⟩ := va_join (wr := [(fa, .inr (3, fg_ kd pn pt qx qy qs pr sc qt qh mn qm qd)), (oa, .inr (4, ov_ k1 k2 ba ca qm0 fr))]) (w1 := [(ra0, .inr (5, sr_ fa fb oa))]) hP hD [0] [1, 2] rfl rfl (by decide) (by decide) hk1 hFc hP1 hD1
    clear hPc hDc hFc hP1 hD1 hK1 hk1 hz1 hvm ht
    generalize H1 = H at hP hS ⊢
    have hP : va_P g vwCl [(fa, .inr (3, fg_ kd pn pt qx qy qs pr sc qt qh mn qm qd)), (oa, .inr (4, ov_ k1 k2 ba ca qm0 fr)), (ra0, .inr (5, sr_ fa fb oa))] H := hP
    have hD : va_D A [(fa, .inr (3, fg_ kd pn pt qx qy qs pr sc qt qh mn qm qd)), (oa, .inr (4, ov_ k1 k2 ba ca qm0 fr)), (ra0, .inr (5, sr_ fa fb oa))] := hD
    rw [hra]
    refine lv_astore_n (lv' := [(3, .ref fa), (0, .ref ra0), (1, .int 0), (2, .int kv)]) hx hb dX5_shape_5 rfl hl (by decide) rfl (fun ls hl => ?_)
    refine lv_iload_n hx hb dX5_shape_6 rfl (lv_at hl 3 rfl) ?_
    refine lv_iconst (v := 1) hx hb dX5_shape_7 (by decide) ?_
    refine lv_icmp_lt (tgt := 16) hx hb dX5_shape_8 (by decide) (fun c1 => ?_) (fun c1 => ?_)
    · have hP9 := hP.sub (ws' := [(ra0, .inr (5, sr_ fa fb oa)), (fa, .inr (3, fg_ kd pn pt qx qy qs pr sc qt qh mn qm qd)), (oa, .inr (4, ov_ k1 k2 ba ca qm0 fr))]) [2, 0, 1] rfl
      have hD9 := hD.sub (ws' := [(ra0, .inr (5, sr_ fa fb oa)), (fa, .inr (3, fg_ kd pn pt qx qy qs pr sc qt qh mn qm qd)), (oa, .inr (4, ov_ k1 k2 ba ca qm0 fr))]) [2, 0, 1] (by decide) rfl
      obtain ⟨sa, hsa⟩ := hev.1.2.1 (34, "no such kind") (List.mem_of_getElem? (i := 1) rfl)
      exact vx_throwS (A := A) (names := nm2_) (cls := "java/lang/IllegalArgumentException") hx hb hlt hown fi2_ fin_ (hts (.classLink RX5 32 "java/lang/IllegalArgumentException") (List.mem_of_getElem? (i := 1) rfl)) (hts (.initialized "java/lang/IllegalArgumentException") (List.mem_of_getElem? (i := 2) rfl)) hsa (vx_hat (B := evB_) (fun w hw => hts w (List.mem_cons_of_mem _ (List.mem_append_left _ (List.mem_append_right _ hw)))) nb2_ (evB_u hev.1)) go2_ hev.2.1 hev.2.2 hS (hl.1.trans hml.symm) dX5_shape_16 dX5_shape_19 dX5_shape_20 dX5_shape_22 dX5_shape_25 (fun x hx9 => (hnx x hx9).elim) (Nat.le_of_ble_eq_true rfl) (Nat.le_of_ble_eq_true rfl) (by show 0 + 1 + 1 ≤ 2; omega) (by show 0 + 6 + 6 ≤ 12; omega) hlocks (fun t hvm hz hq => ⟨(), trivial, ⟨⟨rfl, (wi1_ c1).symm⟩, vp_k hP9 hq, va_K.moved hvm hK, hD9⟩, vf_k hS hz hq⟩) hS.2.2 (by show 0 + 1 + 1 ≤ 2; omega) (by show 0 + 6 + 6 ≤ 12; omega)
    · refine lv_iload_n hx hb dX5_shape_11 rfl (lv_at hl 3 rfl) ?_
      refine lv_iconst (v := 3) hx hb dX5_shape_12 (by decide) ?_
      refine lv_icmp_le (tgt := 26) hx hb dX5_shape_13 (by decide) (fun c2 => ?_) (fun c2 => ?_)
      · refine lv_aload_n hx hb dX5_shape_26 rfl (lv_at hl 0 rfl) ?_
        refine va_get (D := g) (ci := 3) (v := .int pt) (C := RX3) (T := TX3) (N := 13) hx hb hts hiX3 hown hK hP 0 rfl rfl 2 (by decide) (hts (.fieldLink RX5 39 "ShapeRelator$Figure" "pointCount" "I") (List.mem_of_getElem? (i := 3) rfl)) (fun _ h9 => h9) rfl dX5_shape_27 ?_
        refine lv_istore (lv' := [(4, .int pt), (3, .ref fa), (0, .ref ra0), (1, .int 0), (2, .int kv)]) hx hb dX5_shape_30 hl (by decide) rfl (fun ls hl => ?_)
        refine lv_aload_n hx hb dX5_shape_32 rfl (lv_at hl 1 rfl) ?_
        refine lv_iload_n hx hb dX5_shape_33 rfl (lv_at hl 4 rfl) ?_
        have hPc := hP.sub (ws' := [(fa, .inr (3, fg_ kd pn pt qx qy qs pr sc qt qh mn qm qd))]) [0] rfl
        have hDc := hD.sub (ws' := [(fa, .inr (3, fg_ kd pn pt qx qy qs pr sc qt qh mn qm qd))]) [0] (by decide) rfl
        have hFc := va_free (wc := [(fa, .inr (3, fg_ kd pn pt qx qy qs pr sc qt qh mn qm qd))]) hD hS hA [0] rfl
        refine va_callv (va_runV (As := [.int kv]) (rest := []) ⟨hx, hb, hml, hown, hts⟩ (kX3_beginAnew l g cI cJ cZ H.size fa kd pn pt qx qy qs pr sc qt qh mn qm qd kv) (cwV 1 hts gX5_shape_X3_beginAnew rfl rfl rfl (by decide +kernel) ⟨Nat.le_of_ble_eq_true rfl, Nat.le_of_ble_eq_true rfl⟩) (pv_ hK hPc hDc (va_recv hK hPc (ci := 3) (q0 := 0) rfl rfl)) rfl rfl hl.1 rfl (lv_room (Nat.le_of_ble_eq_true rfl)) dX5_shape_34 ⟨by show 0 + 1 + 0 ≤ 2; omega, by show 0 + 6 + 0 ≤ 12; omega⟩) hS (fun q _ h => hFc q h) hFc (fun u t H1 locs ht hvm hw hB hz1 hk1 hS => ?_)
        obtain ⟨hP1, hK1, hD1⟩ := hB
        rw [ht] at hP1
        obtain ⟨hP, hD⟩ := va_join (wr := [(oa, .inr (4, ov_ k1 k2 ba ca qm0 fr)), (ra0, .inr (5, sr_ fa fb oa))]) (w1 := [(fa, .inr (3, fg_ kv 0 0 qx qy qs 0 sc qt qh mn qm qd))]) hP hD [0] [1, 2] rfl rfl (by decide) (by decide) hk1 hFc hP1 hD1
        clear hPc hDc hFc hP1 hD1 hK1 hk1 hz1 hvm ht
        generalize H1 = H at hP hS ⊢
        have hP : va_P g vwCl [(oa, .inr (4, ov_ k1 k2 ba ca qm0 fr)), (ra0, .inr (5, sr_ fa fb oa)), (fa, .inr (3, fg_ kv 0 0 qx qy qs 0 sc qt qh mn qm qd))] H := hP
        have hD : va_D A [(oa, .inr (4, ov_ k1 k2 ba ca qm0 fr)), (ra0, .inr (5, sr_ fa fb oa)), (fa, .inr (3, fg_ kv 0 0 qx qy qs 0 sc qt qh mn qm qd))] := hD
        refine lv_aload_n hx hb dX5_shape_37 rfl (lv_at hl 2 rfl) ?_
        refine va_get (D := g) (ci := 5) (v := .ref oa) (C := RX5) (T := TX5) (N := 3) hx hb hts hiX5 hown hK hP 1 rfl rfl 2 (by decide) (hts (.fieldLink RX5 24 "ShapeRelator" "overlay" "LShapeRelator$Overlay;") (List.mem_of_getElem? (i := 4) rfl)) (fun _ h9 => h9) rfl dX5_shape_38 ?_
        have hPc := hP.sub (ws' := [(oa, .inr (4, ov_ k1 k2 ba ca qm0 fr))]) [0] rfl
        have hDc := hD.sub (ws' := [(oa, .inr (4, ov_ k1 k2 ba ca qm0 fr))]) [0] (by decide) rfl
        have hFc := va_free (wc := [(oa, .inr (4, ov_ k1 k2 ba ca qm0 fr))]) hD hS hA [0] rfl
        refine va_callv (va_runV (As := []) (rest := []) ⟨hx, hb, hml, hown, hts⟩ (kX4_forget l g cI cJ cZ H.size oa k1 k2 ba ca qm0 fr) (cwV 0 hts gX5_shape_X4_forget rfl rfl rfl (by decide +kernel) ⟨Nat.le_of_ble_eq_true rfl, Nat.le_of_ble_eq_true rfl⟩) (pv_ hK hPc hDc (va_recv hK hPc (ci := 4) (q0 := 0) rfl rfl)) rfl rfl hl.1 rfl (lv_room (Nat.le_of_ble_eq_true rfl)) dX5_shape_41 ⟨by show 0 + 1 + 0 ≤ 2; omega, by show 0 + 6 + 0 ≤ 12; omega⟩) hS (fun q _ h => hFc q h) hFc (fun u t H1 locs ht hvm hw hB hz1 hk1 hS => ?_)
        obtain ⟨hP1, hK1, hD1⟩ := hB
        rw [ht] at hP1
        obtain ⟨hP, hD⟩ := va_join (wr := [(ra0, .inr (5, sr_ fa fb oa)), (fa, .inr (3, fg_ kv 0 0 qx qy qs 0 sc qt qh mn qm qd))]) (w1 := [(oa, .inr (4, ov_ k1 k2 ba ca qm0 0))]) hP hD [0] [1, 2] rfl rfl (by decide) (by decide) hk1 hFc hP1 hD1
        clear hPc hDc hFc hP1 hD1 hK1 hk1 hz1 hvm ht
        generalize H1 = H at hP hS ⊢
        have hP : va_P g vwCl [(ra0, .inr (5, sr_ fa fb oa)), (fa, .inr (3, fg_ kv 0 0 qx qy qs 0 sc qt qh mn qm qd)), (oa, .inr (4, ov_ k1 k2 ba ca qm0 0))] H := hP
        have hD : va_D A [(ra0, .inr (5, sr_ fa fb oa)), (fa, .inr (3, fg_ kv 0 0 qx qy qs 0 sc qt qh mn qm qd)), (oa, .inr (4, ov_ k1 k2 ba ca qm0 0))] := hD
        refine lv_iload hx hb dX5_shape_44 (lv_at hl 0 rfl) ?_
        refine W.widen (k := 2) (n := 12) (by omega) (by omega) ?_
        have hP9 := hP.sub (ws' := [(ra0, .inr (5, sr_ fa fb oa)), (fa, .inr (3, fg_ kv 0 0 qx qy qs 0 sc qt qh mn qm qd)), (oa, .inr (4, ov_ k1 k2 ba ca qm0 0))]) [0, 1, 2] rfl
        have hD9 := hD.sub (ws' := [(ra0, .inr (5, sr_ fa fb oa)), (fa, .inr (3, fg_ kv 0 0 qx qy qs 0 sc qt qh mn qm qd)), (oa, .inr (4, ov_ k1 k2 ba ca qm0 0))]) [0, 1, 2] (by decide) rfl
        refine vx_ret ?_
        exact W.iret (v := pt) hx hb hr (fun t ht hW => ⟨⟨pt, (), rfl, ⟨by rw [← wi3_ c1 (Int32.not_lt.mpr c2)]; decide, rfl⟩, by rw [ht]; exact hP9, va_K.moved hW.alike hK, hD9⟩, hS.F ht⟩) hS.2.2 dX5_shape_46
      · have hP9 := hP.sub (ws' := [(ra0, .inr (5, sr_ fa fb oa)), (fa, .inr (3, fg_ kd pn pt qx qy qs pr sc qt qh mn qm qd)), (oa, .inr (4, ov_ k1 k2 ba ca qm0 fr))]) [2, 0, 1] rfl
        have hD9 := hD.sub (ws' := [(ra0, .inr (5, sr_ fa fb oa)), (fa, .inr (3, fg_ kd pn pt qx qy qs pr sc qt qh mn qm qd)), (oa, .inr (4, ov_ k1 k2 ba ca qm0 fr))]) [2, 0, 1] (by decide) rfl
        obtain ⟨sa, hsa⟩ := hev.1.2.1 (34, "no such kind") (List.mem_of_getElem? (i := 1) rfl)
        exact vx_throwS (A := A) (names := nm2_) (cls := "java/lang/IllegalArgumentException") hx hb hlt hown fi2_ fin_ (hts (.classLink RX5 32 "java/lang/IllegalArgumentException") (List.mem_of_getElem? (i := 1) rfl)) (hts (.initialized "java/lang/IllegalArgumentException") (List.mem_of_getElem? (i := 2) rfl)) hsa (vx_hat (B := evB_) (fun w hw => hts w (List.mem_cons_of_mem _ (List.mem_append_left _ (List.mem_append_right _ hw)))) nb2_ (evB_u hev.1)) go2_ hev.2.1 hev.2.2 hS (hl.1.trans hml.symm) dX5_shape_16 dX5_shape_19 dX5_shape_20 dX5_shape_22 dX5_shape_25 (fun x hx9 => (hnx x hx9).elim) (Nat.le_of_ble_eq_true rfl) (Nat.le_of_ble_eq_true rfl) (by show 0 + 1 + 1 ≤ 2; omega) (by show 0 + 6 + 6 ≤ 12; omega) hlocks (fun t hvm hz hq => ⟨(), trivial, ⟨⟨rfl, (wi2_ (Int32.not_le.mp c2)).symm⟩, vp_k hP9 hq, va_K.moved hvm hK, hD9⟩, vf_k hS hz hq⟩) hS.2.2 (by show 0 + 1 + 1 ≤ 2; omega) (by show 0 + 6 + 6 ≤ 12; omega)

theorem ikX5_part0_X3 : ∀ w ∈ wsX30, w ∈ wsX5_part := by decide +kernel
set_option maxHeartbeats 1000000 in
set_option maxRecDepth 100000 in
theorem kX5_part0 (l : Launch) (g : va_G) (cI cJ cZ : ClassId) (sz : Nat) (hlt : l.stackTraces = false) (ra0 : Nat) (fa : Nat) (fb : Nat) (oa : Nat) (kd : Int32) (pt : Int32) (qx : Nat) (qy : Nat) (qs : Nat) (pr : Int32) (sc : Int32) (qt : Nat) (qh : Nat) (mn : Int32) (qm : Nat) (qd : Nat) (cp : Nat) (st : Nat → Int32) (k : Nat) (g1 : cp < 100000) (g2 : k ≤ cp) (g0 : 16 ≤ cp) : vx_Met l yX5_part wsX5_part ({ frames := 7, cells := 2, slots := 6 + 2 * cp, locals := 103 }) (pce_ g cI cJ cZ [.ref ra0, .int 0] [(ra0, .inr (5, sr_ fa fb oa)), (fa, .inr (3, fg_ kd (nI k) pt qx qy qs pr sc qt qh mn qm qd)), (qs, .inl (cI, cp, .inl st))] sz) (va_Qi (fun (r : Int32) (st2 : (Nat → Int32)) => k < 1024 ∧ r = nI (k + 1) ∧ (∀ i, i < k → st2 i = st i) ∧ st2 k = pt) (fun (st2 : (Nat → Int32)) t => ∃ (qs2 : Nat), wd_ g cI cJ cZ (va_A [(ra0, .inr (5, sr_ fa fb oa)), (fa, .inr (3, fg_ kd (nI k) pt qx qy qs pr sc qt qh mn qm qd)), (qs, .inl (cI, cp, .inl st))] sz) [(ra0, .inr (5, sr_ fa fb oa)), (fa, .inr (3, fg_ kd (nI (k + 1)) pt qx qy qs2 0 sc qt qh mn qm qd)), (qs2, .inl (cI, gcap_ k cp, .inl st2))] t) (va_A [(ra0, .inr (5, sr_ fa fb oa)), (fa, .inr (3, fg_ kd (nI k) pt qx qy qs pr sc qt qh mn qm qd)), (qs, .inl (cI, cp, .inl st))] sz)) (vx_X (fun _ : Unit => True) (fun E _ t => (E = "java/lang/IllegalStateException" ∧ ¬ k < 1024) ∧ wd_ g cI cJ cZ (va_A [(ra0, .inr (5, sr_ fa fb oa)), (fa, .inr (3, fg_ kd (nI k) pt qx qy qs pr sc qt qh mn qm qd)), (qs, .inl (cI, cp, .inl st))] sz) [(ra0, .inr (5, sr_ fa fb oa)), (fa, .inr (3, fg_ kd (nI k) pt qx qy qs pr sc qt qh mn qm qd)), (qs, .inl (cI, cp, .inl st))] t) (va_A [(ra0, .inr (5, sr_ fa fb oa)), (fa, .inr (3, fg_ kd (nI k) pt qx qy qs pr sc qt qh mn qm qd)), (qs, .inl (cI, cp, .inl st))] sz)) (2) (6 + 2 * cp) (va_A [(ra0, .inr (5, sr_ fa fb oa)), (fa, .inr (3, fg_ kd (nI k) pt qx qy qs pr sc qt qh mn qm qd)), (qs, .inl (cI, cp, .inl st))] sz) := by
  refine vx_ofW (cc := cX5_part) (maxL := 3) (ret := (some .int)) (by decide) rfl ?_
  intro p e s m args below meth c s₁ B hml hnx hv
  obtain ⟨rfl, ⟨hsz, hP, hK, hD0⟩, hev⟩ := hv
  have hx := B.exec
  have hb := B.bytes
  have hr := B.returns
  have hts := atoms_spec (ws := wsX5_part) B.pre
  have hown : s.vm.findClass RX5 = some m.cls := findClass_of_methodNamed B.named
  have hlocks := B.notSynchronized
  subst hsz
  have hD := hD0.self (sz := s.heap.size)
  generalize hAe : va_A [(ra0, .inr (5, sr_ fa fb oa)), (fa, .inr (3, fg_ kd (nI k) pt qx qy qs pr sc qt qh mn qm qd)), (qs, .inl (cI, cp, .inl st))] s.heap.size = A at hD hev ⊢
  have hA : ∀ q : Nat, s.heap.size ≤ q → A q := fun q h => by rw [← hAe]; exact Or.inr h
  have hS : va_S A s.heap s.heap [] := va_S.rf
  have hP : va_P g vwCl [(ra0, .inr (5, sr_ fa fb oa)), (fa, .inr (3, fg_ kd (nI k) pt qx qy qs pr sc qt qh mn qm qd)), (qs, .inl (cI, cp, .inl st))] s.heap := hP
  have hl := lv_entry ([.ref ra0, .int 0]) (n := 3) (Nat.le_of_ble_eq_true rfl)
  rw [lg_entry_eq]
  generalize (lg_sl ([.ref ra0, .int 0]) ++ List.replicate (3 - (lg_sl ([.ref ra0, .int 0])).length) Slot.unset).toArray = ls at hl ⊢
  have hl : lv_has ls 3 [(0, .ref ra0), (1, .int 0)] := hl
  have hH0 : s.heap = s.heap := rfl
  have hiX3 := ikX5_part0_X3
  refine lv_aload_n hx hb dX5_part_0 rfl (lv_at hl 0 rfl) ?_
  refine lv_iload_n hx hb dX5_part_1 rfl (lv_at hl 1 rfl) ?_
  have hPc := hP.sub (ws' := [(ra0, .inr (5, sr_ fa fb oa))]) [0] rfl
  have hDc := hD.sub (ws' := [(ra0, .inr (5, sr_ fa fb oa))]) [0] (by decide) rfl
  have hFc := va_free (wc := [(ra0, .inr (5, sr_ fa fb oa))]) hD hS hA [0] rfl
  refine vx_callr (vx_runV (As := [.int 0]) (rest := []) ⟨hx, hb, hml, hown, hts⟩ (kX5_figureOf l g cI cJ cZ s.heap.size hlt ra0 fa fb oa 0 fa (fun _ => rfl) (fun h => absurd h (by decide))) (cwV 1 hts gX5_part_X5_figureOf rfl rfl rfl (by decide +kernel) ⟨Nat.le_of_ble_eq_true rfl, Nat.le_of_ble_eq_true rfl⟩) (pve_ hev hS hFc hK hPc hDc (va_recv hK hPc (ci := 5) (q0 := 0) rfl rfl)) rfl rfl hl.1 rfl (lv_room (Nat.le_of_ble_eq_true rfl)) dX5_part_2 ⟨by show 0 + 1 ≤ 2; omega, by show 0 + 6 ≤ 6 + 2 * cp; omega⟩) hS (fun q _ h => hFc q h) hFc (fun q _ h => hFc q h) (fun E ce q9 u t H1 locs ht hvm _ hBX hz1 hk1 hS hce hcv hcl => ?_) (fun u rg t H1 locs ht hvm hw hB hz1 hk1 hS => ?_)
  · obtain ⟨hE, hP1, hK1, hD1⟩ := hBX
    rw [ht] at hP1
    obtain ⟨hP, hD⟩ := va_join (wr := [(fa, .inr (3, fg_ kd (nI k) pt qx qy qs pr sc qt qh mn qm qd)), (qs, .inl (cI, cp, .inl st))]) (w1 := [(ra0, .inr (5, sr_ fa fb oa))]) hP hD [0] [1, 2] rfl rfl (by decide) (by decide) hk1 hFc hP1 hD1
    clear hPc hDc hFc hP1 hD1 hK1 hk1 hz1 hvm ht
    generalize H1 = H at hP hS hce ⊢
    have hP : va_P g vwCl [(fa, .inr (3, fg_ kd (nI k) pt qx qy qs pr sc qt qh mn qm qd)), (qs, .inl (cI, cp, .inl st)), (ra0, .inr (5, sr_ fa fb oa))] H := hP
    have hD : va_D A [(fa, .inr (3, fg_ kd (nI k) pt qx qy qs pr sc qt qh mn qm qd)), (qs, .inl (cI, cp, .inl st)), (ra0, .inr (5, sr_ fa fb oa))] := hD
    exact absurd rfl hE.2.1
  · obtain ⟨hra, hP1, hK1, hD1⟩ := hB
    rw [ht] at hP1
    obtain ⟨hP, hD⟩ := va_join (wr := [(fa, .inr (3, fg_ kd (nI k) pt qx qy qs pr sc qt qh mn qm qd)), (qs, .inl (cI, cp, .inl st))]) (w1 := [(ra0, .inr (5, sr_ fa fb oa))]) hP hD [0] [1, 2] rfl rfl (by decide) (by decide) hk1 hFc hP1 hD1
    clear hPc hDc hFc hP1 hD1 hK1 hk1 hz1 hvm ht
    generalize H1 = H at hP hS ⊢
    have hP : va_P g vwCl [(fa, .inr (3, fg_ kd (nI k) pt qx qy qs pr sc qt qh mn qm qd)), (qs, .inl (cI, cp, .inl st)), (ra0, .inr (5, sr_ fa fb oa))] H := hP
    have hD : va_D A [(fa, .inr (3, fg_ kd (nI k) pt qx qy qs pr sc qt qh mn qm qd)), (qs, .inl (cI, cp, .inl st)), (ra0, .inr (5, sr_ fa fb oa))] := hD
    rw [hra]
    refine lv_astore_n (lv' := [(2, .ref fa), (0, .ref ra0), (1, .int 0)]) hx hb dX5_part_5 rfl hl (by decide) rfl (fun ls hl => ?_)
    refine lv_aload_n hx hb dX5_part_6 rfl (lv_at hl 0 rfl) ?_
    refine va_get (D := g) (ci := 3) (v := .int (nI k)) (C := RX3) (T := TX3) (N := 13) hx hb hts hiX3 hown hK hP 0 rfl rfl 1 (by decide) (hts (.fieldLink RX5 50 "ShapeRelator$Figure" "partCount" "I") (List.mem_of_getElem? (i := 3) rfl)) (fun _ h9 => h9) rfl dX5_part_7 ?_
    refine lv_sipush (v := 1024) hx hb dX5_part_10 (by decide) ?_
    refine lv_icmp_lt (tgt := 26) hx hb dX5_part_13 (by decide) (fun c1 => ?_) (fun c1 => ?_)
    · have e1 : k < 1024 := (nI_ltI (by omega) (by decide)).mp c1
      refine lv_aload_n hx hb dX5_part_26 rfl (lv_at hl 0 rfl) ?_
      have hPc := hP.sub (ws' := [(fa, .inr (3, fg_ kd (nI k) pt qx qy qs pr sc qt qh mn qm qd)), (qs, .inl (cI, cp, .inl st))]) [0, 1] rfl
      have hDc := hD.sub (ws' := [(fa, .inr (3, fg_ kd (nI k) pt qx qy qs pr sc qt qh mn qm qd)), (qs, .inl (cI, cp, .inl st))]) [0, 1] (by decide) rfl
      have hFc := va_free (wc := [(fa, .inr (3, fg_ kd (nI k) pt qx qy qs pr sc qt qh mn qm qd)), (qs, .inl (cI, cp, .inl st))]) hD hS hA [0, 1] rfl
      refine va_callv (va_runV (As := []) (rest := []) ⟨hx, hb, hml, hown, hts⟩ (kX3_beginPart l g cI cJ cZ H.size fa kd pt qx qy qs pr sc qt qh mn qm qd cp st k g1 g2 (by omega)) (cwV 0 hts gX5_part_X3_beginPart rfl rfl rfl (by decide +kernel) ⟨Nat.le_of_ble_eq_true rfl, Nat.le_of_ble_eq_true rfl⟩) (pv_ hK hPc hDc (va_recv hK hPc (ci := 3) (q0 := 0) rfl rfl)) rfl rfl hl.1 rfl (lv_room (Nat.le_of_ble_eq_true rfl)) dX5_part_27 ⟨by show 0 + 1 + 1 ≤ 2; omega, by show 0 + 6 + (2 * cp) ≤ 6 + 2 * cp; omega⟩) hS (fun q _ h => hFc q h) hFc (fun u t H1 locs ht hvm hw3 hB hz1 hk1 hS => ?_)
      obtain ⟨st3, rfl⟩ : ∃ z, z = u := ⟨_, rfl⟩
      obtain ⟨qs3, hP1, hK1, hD1⟩ := hB
      rw [ht] at hP1
      obtain ⟨hP, hD⟩ := va_join (wr := [(ra0, .inr (5, sr_ fa fb oa))]) (w1 := [(fa, .inr (3, fg_ kd (nI (k + 1)) pt qx qy qs3 0 sc qt qh mn qm qd)), (qs3, .inl (cI, gcap_ k cp, .inl st3))]) hP hD [0, 1] [2] rfl rfl (by decide) (by decide) hk1 hFc hP1 hD1
      clear hPc hDc hFc hP1 hD1 hK1 hk1 hz1 hvm ht
      generalize H1 = H at hP hS ⊢
      have hP : va_P g vwCl [(ra0, .inr (5, sr_ fa fb oa)), (fa, .inr (3, fg_ kd (nI (k + 1)) pt qx qy qs3 0 sc qt qh mn qm qd)), (qs3, .inl (cI, gcap_ k cp, .inl st3))] H := hP
      have hD : va_D A [(ra0, .inr (5, sr_ fa fb oa)), (fa, .inr (3, fg_ kd (nI (k + 1)) pt qx qy qs3 0 sc qt qh mn qm qd)), (qs3, .inl (cI, gcap_ k cp, .inl st3))] := hD
      refine lv_aload_n hx hb dX5_part_30 rfl (lv_at hl 0 rfl) ?_
      refine va_get (D := g) (ci := 3) (v := .int (nI (k + 1))) (C := RX3) (T := TX3) (N := 13) hx hb hts hiX3 hown hK hP 1 rfl rfl 1 (by decide) (hts (.fieldLink RX5 50 "ShapeRelator$Figure" "partCount" "I") (List.mem_of_getElem? (i := 3) rfl)) (fun _ h9 => h9) rfl dX5_part_31 ?_
      refine W.widen (k := 2) (n := (6 + 2 * cp)) (by omega) (by omega) ?_
      have hP9 := hP.sub (ws' := [(ra0, .inr (5, sr_ fa fb oa)), (fa, .inr (3, fg_ kd (nI (k + 1)) pt qx qy qs3 0 sc qt qh mn qm qd)), (qs3, .inl (cI, gcap_ k cp, .inl st3))]) [0, 1, 2] rfl
      have hD9 := hD.sub (ws' := [(ra0, .inr (5, sr_ fa fb oa)), (fa, .inr (3, fg_ kd (nI (k + 1)) pt qx qy qs3 0 sc qt qh mn qm qd)), (qs3, .inl (cI, gcap_ k cp, .inl st3))]) [0, 1, 2] (by decide) rfl
      refine vx_ret ?_
      exact W.iret (v := (nI (k + 1))) hx hb hr (fun t ht hW => ⟨⟨nI (k + 1), st3, rfl, ⟨e1, rfl, hw3⟩, qs3, by rw [ht]; exact hP9, va_K.moved hW.alike hK, hD9⟩, hS.F ht⟩) hS.2.2 dX5_part_34
    · have hP9 := hP.sub (ws' := [(ra0, .inr (5, sr_ fa fb oa)), (fa, .inr (3, fg_ kd (nI k) pt qx qy qs pr sc qt qh mn qm qd)), (qs, .inl (cI, cp, .inl st))]) [2, 0, 1] rfl
      have hD9 := hD.sub (ws' := [(ra0, .inr (5, sr_ fa fb oa)), (fa, .inr (3, fg_ kd (nI k) pt qx qy qs pr sc qt qh mn qm qd)), (qs, .inl (cI, cp, .inl st))]) [2, 0, 1] (by decide) rfl
      obtain ⟨sa, hsa⟩ := hev.1.2.1 (55, "too many parts") (List.mem_of_getElem? (i := 2) rfl)
      exact vx_throwS (A := A) (names := nm2_) (cls := "java/lang/IllegalStateException") hx hb hlt hown fi3_ fin_ (hts (.classLink RX5 53 "java/lang/IllegalStateException") (List.mem_of_getElem? (i := 1) rfl)) (hts (.initialized "java/lang/IllegalStateException") (List.mem_of_getElem? (i := 2) rfl)) hsa (vx_hat (B := evB_) (fun w hw => hts w (List.mem_cons_of_mem _ (List.mem_append_left _ (List.mem_append_right _ hw)))) nb3_ (evB_u hev.1)) go3_ hev.2.1 hev.2.2 hS (hl.1.trans hml.symm) dX5_part_16 dX5_part_19 dX5_part_20 dX5_part_22 dX5_part_25 (fun x hx9 => (hnx x hx9).elim) (Nat.le_of_ble_eq_true rfl) (Nat.le_of_ble_eq_true rfl) (by show 0 + 1 + 1 ≤ 2; omega) (by show 0 + 6 + 6 ≤ 6 + 2 * cp; omega) hlocks (fun t hvm hz hq => ⟨(), trivial, ⟨⟨rfl, fun h => c1 ((nI_ltI (by omega) (by decide)).mpr h)⟩, vp_k hP9 hq, va_K.moved hvm hK, hD9⟩, vf_k hS hz hq⟩) hS.2.2 (by show 0 + 1 + 1 ≤ 2; omega) (by show 0 + 6 + 6 ≤ 6 + 2 * cp; omega)

theorem ikX5_point0_X3 : ∀ w ∈ wsX30, w ∈ wsX5_point := by decide +kernel
theorem ikX5_point0_X5 : ∀ w ∈ wsX50, w ∈ wsX5_point := by decide +kernel
set_option maxHeartbeats 1000000 in
set_option maxRecDepth 100000 in
theorem kX5_point0 (l : Launch) (g : va_G) (cI cJ cZ : ClassId) (sz : Nat) (hlt : l.stackTraces = false) (ra0 : Nat) (fa : Nat) (fb : Nat) (oa : Nat) (kd : Int32) (qx : Nat) (qy : Nat) (qs : Nat) (pr : Int32) (sc : Int32) (qt : Nat) (qh : Nat) (mn : Int32) (qm : Nat) (qd : Nat) (k1 : Nat) (k2 : Nat) (ba : Nat) (ca : Nat) (qm0 : Nat) (fr : Int32) (cx : Nat) (xs : Nat → Int32) (ys : Nat → Int32) (np : Nat) (k : Nat) (x1 : Int32) (y1 : Int32) (g1 : cx < 100000) (g2 : k ≤ cx) (g0 : 16 ≤ cx) (g3 : np < 100000) : vx_Met l yX5_point wsX5_point ({ frames := 7, cells := 4, slots := 12 + 4 * cx, locals := 104 }) (pce_ g cI cJ cZ [.ref ra0, .int 0, .int x1, .int y1] [(ra0, .inr (5, sr_ fa fb oa)), (fa, .inr (3, fg_ kd (nI np) (nI k) qx qy qs pr sc qt qh mn qm qd)), (qx, .inl (cI, cx, .inl xs)), (qy, .inl (cI, cx, .inl ys)), (oa, .inr (4, ov_ k1 k2 ba ca qm0 fr))] sz) (va_Qi (fun (r : Int32) (u : (Nat → Int32) × (Nat → Int32)) => match u with | (xs2, ys2) => (far_ x1 = 0 ∧ far_ y1 = 0 ∧ ¬ np = 0 ∧ k < 2048) ∧ r = nI (k + 1) ∧ (∀ i, i < k → xs2 i = xs i ∧ ys2 i = ys i) ∧ xs2 k = x1 ∧ ys2 k = y1) (fun (u : (Nat → Int32) × (Nat → Int32)) t => match u with | (xs2, ys2) => ∃ (qx2 : Nat) (qy2 : Nat), wd_ g cI cJ cZ (va_A [(ra0, .inr (5, sr_ fa fb oa)), (fa, .inr (3, fg_ kd (nI np) (nI k) qx qy qs pr sc qt qh mn qm qd)), (qx, .inl (cI, cx, .inl xs)), (qy, .inl (cI, cx, .inl ys)), (oa, .inr (4, ov_ k1 k2 ba ca qm0 fr))] sz) [(ra0, .inr (5, sr_ fa fb oa)), (fa, .inr (3, fg_ kd (nI np) (nI (k + 1)) qx2 qy2 qs 0 sc qt qh mn qm qd)), (qx2, .inl (cI, gcap_ k cx, .inl xs2)), (qy2, .inl (cI, gcap_ k cx, .inl ys2)), (oa, .inr (4, ov_ k1 k2 ba ca qm0 0))] t) (va_A [(ra0, .inr (5, sr_ fa fb oa)), (fa, .inr (3, fg_ kd (nI np) (nI k) qx qy qs pr sc qt qh mn qm qd)), (qx, .inl (cI, cx, .inl xs)), (qy, .inl (cI, cx, .inl ys)), (oa, .inr (4, ov_ k1 k2 ba ca qm0 fr))] sz)) (vx_X (fun _ : Unit => True) (fun E _ t => ((E = "java/lang/IllegalArgumentException" ∧ (¬ far_ x1 = 0 ∨ ¬ far_ y1 = 0)) ∨ (E = "java/lang/IllegalStateException" ∧ far_ x1 = 0 ∧ far_ y1 = 0 ∧ (np = 0 ∨ ¬ k < 2048))) ∧ wd_ g cI cJ cZ (va_A [(ra0, .inr (5, sr_ fa fb oa)), (fa, .inr (3, fg_ kd (nI np) (nI k) qx qy qs pr sc qt qh mn qm qd)), (qx, .inl (cI, cx, .inl xs)), (qy, .inl (cI, cx, .inl ys)), (oa, .inr (4, ov_ k1 k2 ba ca qm0 fr))] sz) [(ra0, .inr (5, sr_ fa fb oa)), (fa, .inr (3, fg_ kd (nI np) (nI k) qx qy qs pr sc qt qh mn qm qd)), (qx, .inl (cI, cx, .inl xs)), (qy, .inl (cI, cx, .inl ys)), (oa, .inr (4, ov_ k1 k2 ba ca qm0 fr))] t) (va_A [(ra0, .inr (5, sr_ fa fb oa)), (fa, .inr (3, fg_ kd (nI np) (nI k) qx qy qs pr sc qt qh mn qm qd)), (qx, .inl (cI, cx, .inl xs)), (qy, .inl (cI, cx, .inl ys)), (oa, .inr (4, ov_ k1 k2 ba ca qm0 fr))] sz)) (4) (12 + 4 * cx) (va_A [(ra0, .inr (5, sr_ fa fb oa)), (fa, .inr (3, fg_ kd (nI np) (nI k) qx qy qs pr sc qt qh mn qm qd)), (qx, .inl (cI, cx, .inl xs)), (qy, .inl (cI, cx, .inl ys)), (oa, .inr (4, ov_ k1 k2 ba ca qm0 fr))] sz) := by
  refine vx_ofW (cc := cX5_point) (maxL := 5) (ret := (some .int)) (by decide) rfl ?_
  intro p e s m args below meth c s₁ B hml hnx hv
  obtain ⟨rfl, ⟨hsz, hP, hK, hD0⟩, hev⟩ := hv
  have hx := B.exec
  have hb := B.bytes
  have hr := B.returns
  have hts := atoms_spec (ws := wsX5_point) B.pre
  have hown : s.vm.findClass RX5 = some m.cls := findClass_of_methodNamed B.named
  have hlocks := B.notSynchronized
  subst hsz
  have hD := hD0.self (sz := s.heap.size)
  generalize hAe : va_A [(ra0, .inr (5, sr_ fa fb oa)), (fa, .inr (3, fg_ kd (nI np) (nI k) qx qy qs pr sc qt qh mn qm qd)), (qx, .inl (cI, cx, .inl xs)), (qy, .inl (cI, cx, .inl ys)), (oa, .inr (4, ov_ k1 k2 ba ca qm0 fr))] s.heap.size = A at hD hev ⊢
  have hA : ∀ q : Nat, s.heap.size ≤ q → A q := fun q h => by rw [← hAe]; exact Or.inr h
  have hS : va_S A s.heap s.heap [] := va_S.rf
  have hP : va_P g vwCl [(ra0, .inr (5, sr_ fa fb oa)), (fa, .inr (3, fg_ kd (nI np) (nI k) qx qy qs pr sc qt qh mn qm qd)), (qx, .inl (cI, cx, .inl xs)), (qy, .inl (cI, cx, .inl ys)), (oa, .inr (4, ov_ k1 k2 ba ca qm0 fr))] s.heap := hP
  have hl := lv_entry ([.ref ra0, .int 0, .int x1, .int y1]) (n := 5) (Nat.le_of_ble_eq_true rfl)
  rw [lg_entry_eq]
  generalize (lg_sl ([.ref ra0, .int 0, .int x1, .int y1]) ++ List.replicate (5 - (lg_sl ([.ref ra0, .int 0, .int x1, .int y1])).length) Slot.unset).toArray = ls at hl ⊢
  have hl : lv_has ls 5 [(0, .ref ra0), (1, .int 0), (2, .int x1), (3, .int y1)] := hl
  have hH0 : s.heap = s.heap := rfl
  have hiX3 := ikX5_point0_X3
  have hiX5 := ikX5_point0_X5
  refine lv_aload_n hx hb dX5_point_0 rfl (lv_at hl 0 rfl) ?_
  refine lv_iload_n hx hb dX5_point_1 rfl (lv_at hl 1 rfl) ?_
  have hPc := hP.sub (ws' := [(ra0, .inr (5, sr_ fa fb oa))]) [0] rfl
  have hDc := hD.sub (ws' := [(ra0, .inr (5, sr_ fa fb oa))]) [0] (by decide) rfl
  have hFc := va_free (wc := [(ra0, .inr (5, sr_ fa fb oa))]) hD hS hA [0] rfl
  refine vx_callr (vx_runV (As := [.int 0]) (rest := []) ⟨hx, hb, hml, hown, hts⟩ (kX5_figureOf l g cI cJ cZ s.heap.size hlt ra0 fa fb oa 0 fa (fun _ => rfl) (fun h => absurd h (by decide))) (cwV 1 hts gX5_point_X5_figureOf rfl rfl rfl (by decide +kernel) ⟨Nat.le_of_ble_eq_true rfl, Nat.le_of_ble_eq_true rfl⟩) (pve_ hev hS hFc hK hPc hDc (va_recv hK hPc (ci := 5) (q0 := 0) rfl rfl)) rfl rfl hl.1 rfl (lv_room (Nat.le_of_ble_eq_true rfl)) dX5_point_2 ⟨by show 0 + 1 ≤ 4; omega, by show 0 + 6 ≤ 12 + 4 * cx; omega⟩) hS (fun q _ h => hFc q h) hFc (fun q _ h => hFc q h) (fun E ce q9 u t H1 locs ht hvm _ hBX hz1 hk1 hS hce hcv hcl => ?_) (fun u rg t H1 locs ht hvm hw hB hz1 hk1 hS => ?_)
  · obtain ⟨hE, hP1, hK1, hD1⟩ := hBX
    rw [ht] at hP1
    obtain ⟨hP, hD⟩ := va_join (wr := [(fa, .inr (3, fg_ kd (nI np) (nI k) qx qy qs pr sc qt qh mn qm qd)), (qx, .inl (cI, cx, .inl xs)), (qy, .inl (cI, cx, .inl ys)), (oa, .inr (4, ov_ k1 k2 ba ca qm0 fr))]) (w1 := [(ra0, .inr (5, sr_ fa fb oa))]) hP hD [0] [1, 2, 3, 4] rfl rfl (by decide) (by decide) hk1 hFc hP1 hD1
    clear hPc hDc hFc hP1 hD1 hK1 hk1 hz1 hvm ht
    generalize H1 = H at hP hS hce ⊢
    have hP : va_P g vwCl [(fa, .inr (3, fg_ kd (nI np) (nI k) qx qy qs pr sc qt qh mn qm qd)), (qx, .inl (cI, cx, .inl xs)), (qy, .inl (cI, cx, .inl ys)), (oa, .inr (4, ov_ k1 k2 ba ca qm0 fr)), (ra0, .inr (5, sr_ fa fb oa))] H := hP
    have hD : va_D A [(fa, .inr (3, fg_ kd (nI np) (nI k) qx qy qs pr sc qt qh mn qm qd)), (qx, .inl (cI, cx, .inl xs)), (qy, .inl (cI, cx, .inl ys)), (oa, .inr (4, ov_ k1 k2 ba ca qm0 fr)), (ra0, .inr (5, sr_ fa fb oa))] := hD
    exact absurd rfl hE.2.1
  · obtain ⟨hra, hP1, hK1, hD1⟩ := hB
    rw [ht] at hP1
    obtain ⟨hP, hD⟩ := va_join (wr := [(fa, .inr (3, fg_ kd (nI np) (nI k) qx qy qs pr sc qt qh mn qm qd)), (qx, .inl (cI, cx, .inl xs)), (qy, .inl (cI, cx, .inl ys)), (oa, .inr (4, ov_ k1 k2 ba ca qm0 fr))]) (w1 := [(ra0, .inr (5, sr_ fa fb oa))]) hP hD [0] [1, 2, 3, 4] rfl rfl (by decide) (by decide) hk1 hFc hP1 hD1
    clear hPc hDc hFc hP1 hD1 hK1 hk1 hz1 hvm ht
    generalize H1 = H at hP hS ⊢
    have hP : va_P g vwCl [(fa, .inr (3, fg_ kd (nI np) (nI k) qx qy qs pr sc qt qh mn qm qd)), (qx, .inl (cI, cx, .inl xs)), (qy, .inl (cI, cx, .inl ys)), (oa, .inr (4, ov_ k1 k2 ba ca qm0 fr)), (ra0, .inr (5, sr_ fa fb oa))] H := hP
    have hD : va_D A [(fa, .inr (3, fg_ kd (nI np) (nI k) qx qy qs pr sc qt qh mn qm qd)), (qx, .inl (cI, cx, .inl xs)), (qy, .inl (cI, cx, .inl ys)), (oa, .inr (4, ov_ k1 k2 ba ca qm0 fr)), (ra0, .inr (5, sr_ fa fb oa))] := hD
    rw [hra]
    refine lv_astore (lv' := [(4, .ref fa), (0, .ref ra0), (1, .int 0), (2, .int x1), (3, .int y1)]) hx hb dX5_point_5 hl (by decide) rfl (fun ls hl => ?_)
    refine lv_iload_n hx hb dX5_point_7 rfl (lv_at hl 3 rfl) ?_
    refine lv_iload_n hx hb dX5_point_8 rfl (lv_at hl 4 rfl) ?_
    have hPc := hP.sub (ws' := []) [] rfl
    have hDc := hD.sub (ws' := []) [] (by decide) rfl
    have hFc := va_free (wc := []) hD hS hA [] rfl
    refine vx_callv (vx_runS (As := [.int x1, .int y1]) (rest := []) ⟨hx, hb, hml, hown, hts⟩ (kX5_refuseFarPlace l g cI cJ cZ H.size hlt x1 y1) (va_cwS 2 hts gX5_point_X5_refuseFarPlace rfl rfl rfl (by decide +kernel) ⟨Nat.le_of_ble_eq_true rfl, Nat.le_of_ble_eq_true rfl⟩) (pse_ hev hS hFc hK hPc hDc) rfl rfl hl.1 rfl (lv_room (Nat.le_of_ble_eq_true rfl)) dX5_point_9 ⟨by show 0 + 1 + 1 ≤ 4; omega, by show 0 + 6 + 6 ≤ 12 + 4 * cx; omega⟩) hS (fun q _ h => hFc q h) hFc (fun q _ h => hFc q h) (fun E ce q9 u t H1 locs ht hvm _ hBX hz1 hk1 hS hce hcv hcl => ?_) (fun u t H1 locs ht hvm hwr hB hz1 hk1 hS => ?_)
    · obtain ⟨hE, hP1, hK1, hD1⟩ := hBX
      rw [ht] at hP1
      obtain ⟨hP, hD⟩ := va_join (wr := [(fa, .inr (3, fg_ kd (nI np) (nI k) qx qy qs pr sc qt qh mn qm qd)), (qx, .inl (cI, cx, .inl xs)), (qy, .inl (cI, cx, .inl ys)), (oa, .inr (4, ov_ k1 k2 ba ca qm0 fr)), (ra0, .inr (5, sr_ fa fb oa))]) (w1 := []) hP hD [] [0, 1, 2, 3, 4] rfl rfl (by decide) (by decide) hk1 hFc hP1 hD1
      clear hPc hDc hFc hP1 hD1 hK1 hk1 hz1 hvm ht
      generalize H1 = H at hP hS hce ⊢
      have hP : va_P g vwCl [(fa, .inr (3, fg_ kd (nI np) (nI k) qx qy qs pr sc qt qh mn qm qd)), (qx, .inl (cI, cx, .inl xs)), (qy, .inl (cI, cx, .inl ys)), (oa, .inr (4, ov_ k1 k2 ba ca qm0 fr)), (ra0, .inr (5, sr_ fa fb oa))] H := hP
      have hD : va_D A [(fa, .inr (3, fg_ kd (nI np) (nI k) qx qy qs pr sc qt qh mn qm qd)), (qx, .inl (cI, cx, .inl xs)), (qy, .inl (cI, cx, .inl ys)), (oa, .inr (4, ov_ k1 k2 ba ca qm0 fr)), (ra0, .inr (5, sr_ fa fb oa))] := hD
      have hP9 := hP.sub (ws' := [(ra0, .inr (5, sr_ fa fb oa)), (fa, .inr (3, fg_ kd (nI np) (nI k) qx qy qs pr sc qt qh mn qm qd)), (qx, .inl (cI, cx, .inl xs)), (qy, .inl (cI, cx, .inl ys)), (oa, .inr (4, ov_ k1 k2 ba ca qm0 fr))]) [4, 0, 1, 2, 3] rfl
      have hD9 := hD.sub (ws' := [(ra0, .inr (5, sr_ fa fb oa)), (fa, .inr (3, fg_ kd (nI np) (nI k) qx qy qs pr sc qt qh mn qm qd)), (qx, .inl (cI, cx, .inl xs)), (qy, .inl (cI, cx, .inl ys)), (oa, .inr (4, ov_ k1 k2 ba ca qm0 fr))]) [4, 0, 1, 2, 3] (by decide) rfl
      exact vx_out (fun x hx9 => (hnx x hx9).elim) hlocks hce hcv hcl (fun t ht hvm => ⟨(), trivial, ⟨Or.inl hE, by rw [ht]; exact hP9, va_K.moved hvm hK, hD9⟩, hS.F ht⟩) hS.2.2 (by show 0 + 1 + 1 ≤ 4; omega) (by show 0 + 6 + 6 ≤ 12 + 4 * cx; omega)
    · obtain ⟨hP1, hK1, hD1⟩ := hB
      rw [ht] at hP1
      obtain ⟨hP, hD⟩ := va_join (wr := [(fa, .inr (3, fg_ kd (nI np) (nI k) qx qy qs pr sc qt qh mn qm qd)), (qx, .inl (cI, cx, .inl xs)), (qy, .inl (cI, cx, .inl ys)), (oa, .inr (4, ov_ k1 k2 ba ca qm0 fr)), (ra0, .inr (5, sr_ fa fb oa))]) (w1 := []) hP hD [] [0, 1, 2, 3, 4] rfl rfl (by decide) (by decide) hk1 hFc hP1 hD1
      clear hPc hDc hFc hP1 hD1 hK1 hk1 hz1 hvm ht
      generalize H1 = H at hP hS ⊢
      have hP : va_P g vwCl [(fa, .inr (3, fg_ kd (nI np) (nI k) qx qy qs pr sc qt qh mn qm qd)), (qx, .inl (cI, cx, .inl xs)), (qy, .inl (cI, cx, .inl ys)), (oa, .inr (4, ov_ k1 k2 ba ca qm0 fr)), (ra0, .inr (5, sr_ fa fb oa))] H := hP
      have hD : va_D A [(fa, .inr (3, fg_ kd (nI np) (nI k) qx qy qs pr sc qt qh mn qm qd)), (qx, .inl (cI, cx, .inl xs)), (qy, .inl (cI, cx, .inl ys)), (oa, .inr (4, ov_ k1 k2 ba ca qm0 fr)), (ra0, .inr (5, sr_ fa fb oa))] := hD
      refine lv_aload hx hb dX5_point_12 (lv_at hl 0 rfl) ?_
      refine va_get (D := g) (ci := 3) (v := .int (nI np)) (C := RX3) (T := TX3) (N := 13) hx hb hts hiX3 hown hK hP 0 rfl rfl 1 (by decide) (hts (.fieldLink RX5 50 "ShapeRelator$Figure" "partCount" "I") (List.mem_of_getElem? (i := 3) rfl)) (fun _ h9 => h9) rfl dX5_point_14 ?_
      refine lv_if_ne (tgt := 30) hx hb dX5_point_17 (by decide) (fun c1 => ?_) (fun c1 => ?_)
      · have e1 : ¬ np = 0 := fun h => c1 (by rw [h]; rfl)
        refine lv_aload hx hb dX5_point_30 (lv_at hl 0 rfl) ?_
        refine va_get (D := g) (ci := 3) (v := .int (nI k)) (C := RX3) (T := TX3) (N := 13) hx hb hts hiX3 hown hK hP 0 rfl rfl 2 (by decide) (hts (.fieldLink RX5 39 "ShapeRelator$Figure" "pointCount" "I") (List.mem_of_getElem? (i := 4) rfl)) (fun _ h9 => h9) rfl dX5_point_32 ?_
        refine lv_sipush (v := 2048) hx hb dX5_point_35 (by decide) ?_
        refine lv_icmp_lt (tgt := 51) hx hb dX5_point_38 (by decide) (fun c2 => ?_) (fun c2 => ?_)
        · have e2 : k < 2048 := (nI_ltI (by omega) (by decide)).mp c2
          refine lv_aload hx hb dX5_point_51 (lv_at hl 0 rfl) ?_
          refine lv_iload_n hx hb dX5_point_53 rfl (lv_at hl 3 rfl) ?_
          refine lv_iload_n hx hb dX5_point_54 rfl (lv_at hl 4 rfl) ?_
          have hPc := hP.sub (ws' := [(fa, .inr (3, fg_ kd (nI np) (nI k) qx qy qs pr sc qt qh mn qm qd)), (qx, .inl (cI, cx, .inl xs)), (qy, .inl (cI, cx, .inl ys))]) [0, 1, 2] rfl
          have hDc := hD.sub (ws' := [(fa, .inr (3, fg_ kd (nI np) (nI k) qx qy qs pr sc qt qh mn qm qd)), (qx, .inl (cI, cx, .inl xs)), (qy, .inl (cI, cx, .inl ys))]) [0, 1, 2] (by decide) rfl
          have hFc := va_free (wc := [(fa, .inr (3, fg_ kd (nI np) (nI k) qx qy qs pr sc qt qh mn qm qd)), (qx, .inl (cI, cx, .inl xs)), (qy, .inl (cI, cx, .inl ys))]) hD hS hA [0, 1, 2] rfl
          refine va_callv (va_runV (As := [.int x1, .int y1]) (rest := []) ⟨hx, hb, hml, hown, hts⟩ (kX3_addPoint l g cI cJ cZ H.size fa kd (nI np) qx qy qs pr sc qt qh mn qm qd cx xs ys k x1 y1 g1 g2 (by omega)) (cwV 2 hts gX5_point_X3_addPoint rfl rfl rfl (by decide +kernel) ⟨Nat.le_of_ble_eq_true rfl, Nat.le_of_ble_eq_true rfl⟩) (pv_ hK hPc hDc (va_recv hK hPc (ci := 3) (q0 := 0) rfl rfl)) rfl rfl hl.1 rfl (lv_room (Nat.le_of_ble_eq_true rfl)) dX5_point_55 ⟨by show 0 + 1 + 1 + 2 ≤ 4; omega, by show 0 + 6 + 6 + (4 * cx) ≤ 12 + 4 * cx; omega⟩) hS (fun q _ h => hFc q h) hFc (fun u t H1 locs ht hvm hw3 hB hz1 hk1 hS => ?_)
          obtain ⟨xs3, ys3⟩ := u
          obtain ⟨qx3, qy3, hP1, hK1, hD1⟩ := hB
          rw [ht] at hP1
          dsimp only at hw3
          obtain ⟨hP, hD⟩ := va_join (wr := [(oa, .inr (4, ov_ k1 k2 ba ca qm0 fr)), (ra0, .inr (5, sr_ fa fb oa))]) (w1 := [(fa, .inr (3, fg_ kd (nI np) (nI (k + 1)) qx3 qy3 qs 0 sc qt qh mn qm qd)), (qx3, .inl (cI, gcap_ k cx, .inl xs3)), (qy3, .inl (cI, gcap_ k cx, .inl ys3))]) hP hD [0, 1, 2] [3, 4] rfl rfl (by decide) (by decide) hk1 hFc hP1 hD1
          clear hPc hDc hFc hP1 hD1 hK1 hk1 hz1 hvm ht
          generalize H1 = H at hP hS ⊢
          have hP : va_P g vwCl [(oa, .inr (4, ov_ k1 k2 ba ca qm0 fr)), (ra0, .inr (5, sr_ fa fb oa)), (fa, .inr (3, fg_ kd (nI np) (nI (k + 1)) qx3 qy3 qs 0 sc qt qh mn qm qd)), (qx3, .inl (cI, gcap_ k cx, .inl xs3)), (qy3, .inl (cI, gcap_ k cx, .inl ys3))] H := hP
          have hD : va_D A [(oa, .inr (4, ov_ k1 k2 ba ca qm0 fr)), (ra0, .inr (5, sr_ fa fb oa)), (fa, .inr (3, fg_ kd (nI np) (nI (k + 1)) qx3 qy3 qs 0 sc qt qh mn qm qd)), (qx3, .inl (cI, gcap_ k cx, .inl xs3)), (qy3, .inl (cI, gcap_ k cx, .inl ys3))] := hD
          refine lv_aload_n hx hb dX5_point_58 rfl (lv_at hl 1 rfl) ?_
          refine va_get (D := g) (ci := 5) (v := .ref oa) (C := RX5) (T := TX5) (N := 3) hx hb hts hiX5 hown hK hP 1 rfl rfl 2 (by decide) (hts (.fieldLink RX5 24 "ShapeRelator" "overlay" "LShapeRelator$Overlay;") (List.mem_of_getElem? (i := 5) rfl)) (fun _ h9 => h9) rfl dX5_point_59 ?_
          have hPc := hP.sub (ws' := [(oa, .inr (4, ov_ k1 k2 ba ca qm0 fr))]) [0] rfl
          have hDc := hD.sub (ws' := [(oa, .inr (4, ov_ k1 k2 ba ca qm0 fr))]) [0] (by decide) rfl
          have hFc := va_free (wc := [(oa, .inr (4, ov_ k1 k2 ba ca qm0 fr))]) hD hS hA [0] rfl
          refine va_callv (va_runV (As := []) (rest := []) ⟨hx, hb, hml, hown, hts⟩ (kX4_forget l g cI cJ cZ H.size oa k1 k2 ba ca qm0 fr) (cwV 0 hts gX5_point_X4_forget rfl rfl rfl (by decide +kernel) ⟨Nat.le_of_ble_eq_true rfl, Nat.le_of_ble_eq_true rfl⟩) (pv_ hK hPc hDc (va_recv hK hPc (ci := 4) (q0 := 0) rfl rfl)) rfl rfl hl.1 rfl (lv_room (Nat.le_of_ble_eq_true rfl)) dX5_point_62 ⟨by show 0 + 1 + 1 + 2 + 0 ≤ 4; omega, by show 0 + 6 + 6 + (4 * cx) + 0 ≤ 12 + 4 * cx; omega⟩) hS (fun q _ h => hFc q h) hFc (fun u t H1 locs ht hvm hw hB hz1 hk1 hS => ?_)
          obtain ⟨hP1, hK1, hD1⟩ := hB
          rw [ht] at hP1
          obtain ⟨hP, hD⟩ := va_join (wr := [(ra0, .inr (5, sr_ fa fb oa)), (fa, .inr (3, fg_ kd (nI np) (nI (k + 1)) qx3 qy3 qs 0 sc qt qh mn qm qd)), (qx3, .inl (cI, gcap_ k cx, .inl xs3)), (qy3, .inl (cI, gcap_ k cx, .inl ys3))]) (w1 := [(oa, .inr (4, ov_ k1 k2 ba ca qm0 0))]) hP hD [0] [1, 2, 3, 4] rfl rfl (by decide) (by decide) hk1 hFc hP1 hD1
          clear hPc hDc hFc hP1 hD1 hK1 hk1 hz1 hvm ht
          generalize H1 = H at hP hS ⊢
          have hP : va_P g vwCl [(ra0, .inr (5, sr_ fa fb oa)), (fa, .inr (3, fg_ kd (nI np) (nI (k + 1)) qx3 qy3 qs 0 sc qt qh mn qm qd)), (qx3, .inl (cI, gcap_ k cx, .inl xs3)), (qy3, .inl (cI, gcap_ k cx, .inl ys3)), (oa, .inr (4, ov_ k1 k2 ba ca qm0 0))] H := hP
          have hD : va_D A [(ra0, .inr (5, sr_ fa fb oa)), (fa, .inr (3, fg_ kd (nI np) (nI (k + 1)) qx3 qy3 qs 0 sc qt qh mn qm qd)), (qx3, .inl (cI, gcap_ k cx, .inl xs3)), (qy3, .inl (cI, gcap_ k cx, .inl ys3)), (oa, .inr (4, ov_ k1 k2 ba ca qm0 0))] := hD
          refine lv_aload hx hb dX5_point_65 (lv_at hl 0 rfl) ?_
          refine va_get (D := g) (ci := 3) (v := .int (nI (k + 1))) (C := RX3) (T := TX3) (N := 13) hx hb hts hiX3 hown hK hP 1 rfl rfl 2 (by decide) (hts (.fieldLink RX5 39 "ShapeRelator$Figure" "pointCount" "I") (List.mem_of_getElem? (i := 4) rfl)) (fun _ h9 => h9) rfl dX5_point_67 ?_
          refine W.widen (k := 4) (n := (12 + 4 * cx)) (by omega) (by omega) ?_
          have hP9 := hP.sub (ws' := [(ra0, .inr (5, sr_ fa fb oa)), (fa, .inr (3, fg_ kd (nI np) (nI (k + 1)) qx3 qy3 qs 0 sc qt qh mn qm qd)), (qx3, .inl (cI, gcap_ k cx, .inl xs3)), (qy3, .inl (cI, gcap_ k cx, .inl ys3)), (oa, .inr (4, ov_ k1 k2 ba ca qm0 0))]) [0, 1, 2, 3, 4] rfl
          have hD9 := hD.sub (ws' := [(ra0, .inr (5, sr_ fa fb oa)), (fa, .inr (3, fg_ kd (nI np) (nI (k + 1)) qx3 qy3 qs 0 sc qt qh mn qm qd)), (qx3, .inl (cI, gcap_ k cx, .inl xs3)), (qy3, .inl (cI, gcap_ k cx, .inl ys3)), (oa, .inr (4, ov_ k1 k2 ba ca qm0 0))]) [0, 1, 2, 3, 4] (by decide) rfl
          refine vx_ret ?_
          exact W.iret (v := (nI (k + 1))) hx hb hr (fun t ht hW => ⟨⟨nI (k + 1), (xs3, ys3), rfl, ⟨⟨hwr.1, hwr.2, e1, e2⟩, rfl, hw3⟩, qx3, qy3, by rw [ht]; exact hP9, va_K.moved hW.alike hK, hD9⟩, hS.F ht⟩) hS.2.2 dX5_point_70
        · have hP9 := hP.sub (ws' := [(ra0, .inr (5, sr_ fa fb oa)), (fa, .inr (3, fg_ kd (nI np) (nI k) qx qy qs pr sc qt qh mn qm qd)), (qx, .inl (cI, cx, .inl xs)), (qy, .inl (cI, cx, .inl ys)), (oa, .inr (4, ov_ k1 k2 ba ca qm0 fr))]) [4, 0, 1, 2, 3] rfl
          have hD9 := hD.sub (ws' := [(ra0, .inr (5, sr_ fa fb oa)), (fa, .inr (3, fg_ kd (nI np) (nI k) qx qy qs pr sc qt qh mn qm qd)), (qx, .inl (cI, cx, .inl xs)), (qy, .inl (cI, cx, .inl ys)), (oa, .inr (4, ov_ k1 k2 ba ca qm0 fr))]) [4, 0, 1, 2, 3] (by decide) rfl
          obtain ⟨sa, hsa⟩ := hev.1.2.1 (67, "too many points") (List.mem_of_getElem? (i := 5) rfl)
          exact vx_throwS (A := A) (names := nm2_) (cls := "java/lang/IllegalStateException") hx hb hlt hown fi3_ fin_ (hts (.classLink RX5 53 "java/lang/IllegalStateException") (List.mem_of_getElem? (i := 1) rfl)) (hts (.initialized "java/lang/IllegalStateException") (List.mem_of_getElem? (i := 2) rfl)) hsa (vx_hat (B := evB_) (fun w hw => hts w (List.mem_cons_of_mem _ (List.mem_append_left _ (List.mem_append_left _ (List.mem_append_right _ hw))))) nb3_ (evB_u hev.1)) go3_ hev.2.1 hev.2.2 hS (hl.1.trans hml.symm) dX5_point_41 dX5_point_44 dX5_point_45 dX5_point_47 dX5_point_50 (fun x hx9 => (hnx x hx9).elim) (Nat.le_of_ble_eq_true rfl) (Nat.le_of_ble_eq_true rfl) (by show 0 + 1 + 1 + 1 ≤ 4; omega) (by show 0 + 6 + 6 + 6 ≤ 12 + 4 * cx; omega) hlocks (fun t hvm hz hq => ⟨(), trivial, ⟨Or.inr ⟨rfl, hwr.1, hwr.2, Or.inr (fun h => c2 ((nI_ltI (by omega) (by decide)).mpr h))⟩, vp_k hP9 hq, va_K.moved hvm hK, hD9⟩, vf_k hS hz hq⟩) hS.2.2 (by show 0 + 1 + 1 + 1 ≤ 4; omega) (by show 0 + 6 + 6 + 6 ≤ 12 + 4 * cx; omega)
      · have hP9 := hP.sub (ws' := [(ra0, .inr (5, sr_ fa fb oa)), (fa, .inr (3, fg_ kd (nI np) (nI k) qx qy qs pr sc qt qh mn qm qd)), (qx, .inl (cI, cx, .inl xs)), (qy, .inl (cI, cx, .inl ys)), (oa, .inr (4, ov_ k1 k2 ba ca qm0 fr))]) [4, 0, 1, 2, 3] rfl
        have hD9 := hD.sub (ws' := [(ra0, .inr (5, sr_ fa fb oa)), (fa, .inr (3, fg_ kd (nI np) (nI k) qx qy qs pr sc qt qh mn qm qd)), (qx, .inl (cI, cx, .inl xs)), (qy, .inl (cI, cx, .inl ys)), (oa, .inr (4, ov_ k1 k2 ba ca qm0 fr))]) [4, 0, 1, 2, 3] (by decide) rfl
        obtain ⟨sa, hsa⟩ := hev.1.2.1 (65, "no part has begun") (List.mem_of_getElem? (i := 4) rfl)
        exact vx_throwS (A := A) (names := nm2_) (cls := "java/lang/IllegalStateException") hx hb hlt hown fi3_ fin_ (hts (.classLink RX5 53 "java/lang/IllegalStateException") (List.mem_of_getElem? (i := 1) rfl)) (hts (.initialized "java/lang/IllegalStateException") (List.mem_of_getElem? (i := 2) rfl)) hsa (vx_hat (B := evB_) (fun w hw => hts w (List.mem_cons_of_mem _ (List.mem_append_left _ (List.mem_append_left _ (List.mem_append_right _ hw))))) nb3_ (evB_u hev.1)) go3_ hev.2.1 hev.2.2 hS (hl.1.trans hml.symm) dX5_point_20 dX5_point_23 dX5_point_24 dX5_point_26 dX5_point_29 (fun x hx9 => (hnx x hx9).elim) (Nat.le_of_ble_eq_true rfl) (Nat.le_of_ble_eq_true rfl) (by show 0 + 1 + 1 + 1 ≤ 4; omega) (by show 0 + 6 + 6 + 6 ≤ 12 + 4 * cx; omega) hlocks (fun t hvm hz hq => ⟨(), trivial, ⟨Or.inr ⟨rfl, hwr.1, hwr.2, Or.inl ((nI_eq (b := 0) (by omega) (by decide)).mp c1)⟩, vp_k hP9 hq, va_K.moved hvm hK, hD9⟩, vf_k hS hz hq⟩) hS.2.2 (by show 0 + 1 + 1 + 1 ≤ 4; omega) (by show 0 + 6 + 6 + 6 ≤ 12 + 4 * cx; omega)

theorem ikX5_count0_X3 : ∀ w ∈ wsX30, w ∈ wsX5_count := by decide +kernel
set_option maxHeartbeats 1000000 in
set_option maxRecDepth 100000 in
theorem kX5_count0 (l : Launch) (g : va_G) (cI cJ cZ : ClassId) (sz : Nat) (hlt : l.stackTraces = false) (ra0 : Nat) (fa : Nat) (fb : Nat) (oa : Nat) (kd : Int32) (pn : Int32) (pt : Int32) (qx : Nat) (qy : Nat) (qs : Nat) (pr : Int32) (sc : Int32) (qt : Nat) (qh : Nat) (mn : Int32) (qm : Nat) (qd : Nat) (wv : Int32)  : vx_Met l yX5_count wsX5_count ({ frames := 7, cells := 2, slots := 12, locals := 103 }) (pce_ g cI cJ cZ [.ref ra0, .int 0, .int wv] [(ra0, .inr (5, sr_ fa fb oa)), (fa, .inr (3, fg_ kd pn pt qx qy qs pr sc qt qh mn qm qd))] sz) (va_Qi (fun (r : Int32) (_ : Unit) => ¬ wi_ wv 0 2 = 0 ∧ r = if wv = 0 then kd else if wv = 1 then pn else pt) (fun (_ : Unit) t => wd_ g cI cJ cZ (va_A [(ra0, .inr (5, sr_ fa fb oa)), (fa, .inr (3, fg_ kd pn pt qx qy qs pr sc qt qh mn qm qd))] sz) [(ra0, .inr (5, sr_ fa fb oa)), (fa, .inr (3, fg_ kd pn pt qx qy qs pr sc qt qh mn qm qd))] t) (va_A [(ra0, .inr (5, sr_ fa fb oa)), (fa, .inr (3, fg_ kd pn pt qx qy qs pr sc qt qh mn qm qd))] sz)) (vx_X (fun _ : Unit => True) (fun E _ t => (E = "java/lang/IndexOutOfBoundsException" ∧ wi_ wv 0 2 = 0) ∧ wd_ g cI cJ cZ (va_A [(ra0, .inr (5, sr_ fa fb oa)), (fa, .inr (3, fg_ kd pn pt qx qy qs pr sc qt qh mn qm qd))] sz) [(ra0, .inr (5, sr_ fa fb oa)), (fa, .inr (3, fg_ kd pn pt qx qy qs pr sc qt qh mn qm qd))] t) (va_A [(ra0, .inr (5, sr_ fa fb oa)), (fa, .inr (3, fg_ kd pn pt qx qy qs pr sc qt qh mn qm qd))] sz)) (2) (12) (va_A [(ra0, .inr (5, sr_ fa fb oa)), (fa, .inr (3, fg_ kd pn pt qx qy qs pr sc qt qh mn qm qd))] sz) := by
  refine vx_ofW (cc := cX5_count) (maxL := 4) (ret := (some .int)) (by decide) rfl ?_
  intro p e s m args below meth c s₁ B hml hnx hv
  obtain ⟨rfl, ⟨hsz, hP, hK, hD0⟩, hev⟩ := hv
  have hx := B.exec
  have hb := B.bytes
  have hr := B.returns
  have hts := atoms_spec (ws := wsX5_count) B.pre
  have hown : s.vm.findClass RX5 = some m.cls := findClass_of_methodNamed B.named
  have hlocks := B.notSynchronized
  subst hsz
  have hD := hD0.self (sz := s.heap.size)
  generalize hAe : va_A [(ra0, .inr (5, sr_ fa fb oa)), (fa, .inr (3, fg_ kd pn pt qx qy qs pr sc qt qh mn qm qd))] s.heap.size = A at hD hev ⊢
  have hA : ∀ q : Nat, s.heap.size ≤ q → A q := fun q h => by rw [← hAe]; exact Or.inr h
  have hS : va_S A s.heap s.heap [] := va_S.rf
  have hP : va_P g vwCl [(ra0, .inr (5, sr_ fa fb oa)), (fa, .inr (3, fg_ kd pn pt qx qy qs pr sc qt qh mn qm qd))] s.heap := hP
  have hl := lv_entry ([.ref ra0, .int 0, .int wv]) (n := 4) (Nat.le_of_ble_eq_true rfl)
  rw [lg_entry_eq]
  generalize (lg_sl ([.ref ra0, .int 0, .int wv]) ++ List.replicate (4 - (lg_sl ([.ref ra0, .int 0, .int wv])).length) Slot.unset).toArray = ls at hl ⊢
  have hl : lv_has ls 4 [(0, .ref ra0), (1, .int 0), (2, .int wv)] := hl
  have hH0 : s.heap = s.heap := rfl
  have hiX3 := ikX5_count0_X3
  refine lv_aload_n hx hb dX5_count_0 rfl (lv_at hl 0 rfl) ?_
  refine lv_iload_n hx hb dX5_count_1 rfl (lv_at hl 1 rfl) ?_
  have hPc := hP.sub (ws' := [(ra0, .inr (5, sr_ fa fb oa))]) [0] rfl
  have hDc := hD.sub (ws' := [(ra0, .inr (5, sr_ fa fb oa))]) [0] (by decide) rfl
  have hFc := va_free (wc := [(ra0, .inr (5, sr_ fa fb oa))]) hD hS hA [0] rfl
  refine vx_callr (vx_runV (As := [.int 0]) (rest := []) ⟨hx, hb, hml, hown, hts⟩ (kX5_figureOf l g cI cJ cZ s.heap.size hlt ra0 fa fb oa 0 fa (fun _ => rfl) (fun h => absurd h (by decide))) (cwV 1 hts gX5_count_X5_figureOf rfl rfl rfl (by decide +kernel) ⟨Nat.le_of_ble_eq_true rfl, Nat.le_of_ble_eq_true rfl⟩) (pve_ hev hS hFc hK hPc hDc (va_recv hK hPc (ci := 5) (q0 := 0) rfl rfl)) rfl rfl hl.1 rfl (lv_room (Nat.le_of_ble_eq_true rfl)) dX5_count_2 ⟨by show 0 + 1 ≤ 2; omega, by show 0 + 6 ≤ 12; omega⟩) hS (fun q _ h => hFc q h) hFc (fun q _ h => hFc q h) (fun E ce q9 u t H1 locs ht hvm _ hBX hz1 hk1 hS hce hcv hcl => ?_) (fun u rg t H1 locs ht hvm hw hB hz1 hk1 hS => ?_)
  · obtain ⟨hE, hP1, hK1, hD1⟩ := hBX
    rw [ht] at hP1
    obtain ⟨hP, hD⟩ := va_join (wr := [(fa, .inr (3, fg_ kd pn pt qx qy qs pr sc qt qh mn qm qd))]) (w1 := [(ra0, .inr (5, sr_ fa fb oa))]) hP hD [0] [1] rfl rfl (by decide) (by decide) hk1 hFc hP1 hD1
    clear hPc hDc hFc hP1 hD1 hK1 hk1 hz1 hvm ht
    generalize H1 = H at hP hS hce ⊢
    have hP : va_P g vwCl [(fa, .inr (3, fg_ kd pn pt qx qy qs pr sc qt qh mn qm qd)), (ra0, .inr (5, sr_ fa fb oa))] H := hP
    have hD : va_D A [(fa, .inr (3, fg_ kd pn pt qx qy qs pr sc qt qh mn qm qd)), (ra0, .inr (5, sr_ fa fb oa))] := hD
    exact absurd rfl hE.2.1
  · obtain ⟨hra, hP1, hK1, hD1⟩ := hB
    rw [ht] at hP1
    obtain ⟨hP, hD⟩ := va_join (wr := [(fa, .inr (3, fg_ kd pn pt qx qy qs pr sc qt qh mn qm qd))]) (w1 := [(ra0, .inr (5, sr_ fa fb oa))]) hP hD [0] [1] rfl rfl (by decide) (by decide) hk1 hFc hP1 hD1
    clear hPc hDc hFc hP1 hD1 hK1 hk1 hz1 hvm ht
    generalize H1 = H at hP hS ⊢
    have hP : va_P g vwCl [(fa, .inr (3, fg_ kd pn pt qx qy qs pr sc qt qh mn qm qd)), (ra0, .inr (5, sr_ fa fb oa))] H := hP
    have hD : va_D A [(fa, .inr (3, fg_ kd pn pt qx qy qs pr sc qt qh mn qm qd)), (ra0, .inr (5, sr_ fa fb oa))] := hD
    rw [hra]
    refine lv_astore_n (lv' := [(3, .ref fa), (0, .ref ra0), (1, .int 0), (2, .int wv)]) hx hb dX5_count_5 rfl hl (by decide) rfl (fun ls hl => ?_)
    refine lv_iload_n hx hb dX5_count_6 rfl (lv_at hl 3 rfl) ?_
    rcases w2_c (v := wv) with hc | hc
    · rcases hc with rfl | rfl | rfl
      · refine lv_tableIn (off := 25) (tgt := 32) hx hb dX5_count_7 (by decide) (by decide) rfl (by decide) ?_
        refine lv_aload_n hx hb dX5_count_32 rfl (lv_at hl 0 rfl) ?_
        refine va_get (D := g) (ci := 3) (v := .int kd) (C := RX3) (T := TX3) (N := 13) hx hb hts hiX3 hown hK hP 0 rfl rfl 0 (by decide) (hts (.fieldLink RX5 127 "ShapeRelator$Figure" "kind" "I") (List.mem_of_getElem? (i := 3) rfl)) (fun _ h9 => h9) rfl dX5_count_33 ?_
        refine W.widen (k := 2) (n := 12) (by omega) (by omega) ?_
        have hP9 := hP.sub (ws' := [(ra0, .inr (5, sr_ fa fb oa)), (fa, .inr (3, fg_ kd pn pt qx qy qs pr sc qt qh mn qm qd))]) [1, 0] rfl
        have hD9 := hD.sub (ws' := [(ra0, .inr (5, sr_ fa fb oa)), (fa, .inr (3, fg_ kd pn pt qx qy qs pr sc qt qh mn qm qd))]) [1, 0] (by decide) rfl
        refine vx_ret ?_
        exact W.iret (v := kd) hx hb hr (fun t ht hW => ⟨⟨kd, (), rfl, ⟨by decide, rfl⟩, by rw [ht]; exact hP9, va_K.moved hW.alike hK, hD9⟩, hS.F ht⟩) hS.2.2 dX5_count_36
      · refine lv_tableIn (off := 30) (tgt := 37) hx hb dX5_count_7 (by decide) (by decide) rfl (by decide) ?_
        refine lv_aload_n hx hb dX5_count_37 rfl (lv_at hl 0 rfl) ?_
        refine va_get (D := g) (ci := 3) (v := .int pn) (C := RX3) (T := TX3) (N := 13) hx hb hts hiX3 hown hK hP 0 rfl rfl 1 (by decide) (hts (.fieldLink RX5 50 "ShapeRelator$Figure" "partCount" "I") (List.mem_of_getElem? (i := 4) rfl)) (fun _ h9 => h9) rfl dX5_count_38 ?_
        refine W.widen (k := 2) (n := 12) (by omega) (by omega) ?_
        have hP9 := hP.sub (ws' := [(ra0, .inr (5, sr_ fa fb oa)), (fa, .inr (3, fg_ kd pn pt qx qy qs pr sc qt qh mn qm qd))]) [1, 0] rfl
        have hD9 := hD.sub (ws' := [(ra0, .inr (5, sr_ fa fb oa)), (fa, .inr (3, fg_ kd pn pt qx qy qs pr sc qt qh mn qm qd))]) [1, 0] (by decide) rfl
        refine vx_ret ?_
        exact W.iret (v := pn) hx hb hr (fun t ht hW => ⟨⟨pn, (), rfl, ⟨by decide, rfl⟩, by rw [ht]; exact hP9, va_K.moved hW.alike hK, hD9⟩, hS.F ht⟩) hS.2.2 dX5_count_41
      · refine lv_tableIn (off := 35) (tgt := 42) hx hb dX5_count_7 (by decide) (by decide) rfl (by decide) ?_
        refine lv_aload_n hx hb dX5_count_42 rfl (lv_at hl 0 rfl) ?_
        refine va_get (D := g) (ci := 3) (v := .int pt) (C := RX3) (T := TX3) (N := 13) hx hb hts hiX3 hown hK hP 0 rfl rfl 2 (by decide) (hts (.fieldLink RX5 39 "ShapeRelator$Figure" "pointCount" "I") (List.mem_of_getElem? (i := 5) rfl)) (fun _ h9 => h9) rfl dX5_count_43 ?_
        refine W.widen (k := 2) (n := 12) (by omega) (by omega) ?_
        have hP9 := hP.sub (ws' := [(ra0, .inr (5, sr_ fa fb oa)), (fa, .inr (3, fg_ kd pn pt qx qy qs pr sc qt qh mn qm qd))]) [1, 0] rfl
        have hD9 := hD.sub (ws' := [(ra0, .inr (5, sr_ fa fb oa)), (fa, .inr (3, fg_ kd pn pt qx qy qs pr sc qt qh mn qm qd))]) [1, 0] (by decide) rfl
        refine vx_ret ?_
        exact W.iret (v := pt) hx hb hr (fun t ht hW => ⟨⟨pt, (), rfl, ⟨by decide, rfl⟩, by rw [ht]; exact hP9, va_K.moved hW.alike hK, hD9⟩, hS.F ht⟩) hS.2.2 dX5_count_46
    · refine lv_tableOut (tgt := 47) hx hb dX5_count_7 (w2_o hc) (by decide) ?_
      have hP9 := hP.sub (ws' := [(ra0, .inr (5, sr_ fa fb oa)), (fa, .inr (3, fg_ kd pn pt qx qy qs pr sc qt qh mn qm qd))]) [1, 0] rfl
      have hD9 := hD.sub (ws' := [(ra0, .inr (5, sr_ fa fb oa)), (fa, .inr (3, fg_ kd pn pt qx qy qs pr sc qt qh mn qm qd))]) [1, 0] (by decide) rfl
      obtain ⟨sa, hsa⟩ := hev.1.2.1 (130, "nothing of this number is counted") (List.mem_of_getElem? (i := 8) rfl)
      exact vx_throwS (A := A) (names := nm2_) (cls := "java/lang/IndexOutOfBoundsException") hx hb hlt hown fi1_ fin_ (hts (.classLink RX5 85 "java/lang/IndexOutOfBoundsException") (List.mem_of_getElem? (i := 1) rfl)) (hts (.initialized "java/lang/IndexOutOfBoundsException") (List.mem_of_getElem? (i := 2) rfl)) hsa (vx_hat (B := evB_) (fun w hw => hts w (List.mem_cons_of_mem _ (List.mem_append_right _ hw))) nb1_ (evB_u hev.1)) go1_ hev.2.1 hev.2.2 hS (hl.1.trans hml.symm) dX5_count_47 dX5_count_50 dX5_count_51 dX5_count_53 dX5_count_56 (fun x hx9 => (hnx x hx9).elim) (Nat.le_of_ble_eq_true rfl) (Nat.le_of_ble_eq_true rfl) (by show 0 + 1 + 1 ≤ 2; omega) (by show 0 + 6 + 6 ≤ 12; omega) hlocks (fun t hvm hz hq => ⟨(), trivial, ⟨⟨rfl, hc⟩, vp_k hP9 hq, va_K.moved hvm hK, hD9⟩, vf_k hS hz hq⟩) hS.2.2 (by show 0 + 1 + 1 ≤ 2; omega) (by show 0 + 6 + 6 ≤ 12; omega)

theorem ikX5_shape1_X3 : ∀ w ∈ wsX30, w ∈ wsX5_shape := by decide +kernel
theorem ikX5_shape1_X5 : ∀ w ∈ wsX50, w ∈ wsX5_shape := by decide +kernel
set_option maxHeartbeats 1000000 in
set_option maxRecDepth 100000 in
theorem kX5_shape1 (l : Launch) (g : va_G) (cI cJ cZ : ClassId) (sz : Nat) (hlt : l.stackTraces = false) (ra0 : Nat) (fa : Nat) (fb : Nat) (oa : Nat) (kd : Int32) (pn : Int32) (pt : Int32) (qx : Nat) (qy : Nat) (qs : Nat) (pr : Int32) (sc : Int32) (qt : Nat) (qh : Nat) (mn : Int32) (qm : Nat) (qd : Nat) (k1 : Nat) (k2 : Nat) (ba : Nat) (ca : Nat) (qm0 : Nat) (fr : Int32) (kv : Int32)  : vx_Met l yX5_shape wsX5_shape ({ frames := 7, cells := 2, slots := 12, locals := 103 }) (pce_ g cI cJ cZ [.ref ra0, .int 1, .int kv] [(ra0, .inr (5, sr_ fa fb oa)), (fb, .inr (3, fg_ kd pn pt qx qy qs pr sc qt qh mn qm qd)), (oa, .inr (4, ov_ k1 k2 ba ca qm0 fr))] sz) (va_Qi (fun (r : Int32) (_ : Unit) => ¬ wi_ kv 1 3 = 0 ∧ r = pt) (fun (_ : Unit) t => wd_ g cI cJ cZ (va_A [(ra0, .inr (5, sr_ fa fb oa)), (fb, .inr (3, fg_ kd pn pt qx qy qs pr sc qt qh mn qm qd)), (oa, .inr (4, ov_ k1 k2 ba ca qm0 fr))] sz) [(ra0, .inr (5, sr_ fa fb oa)), (fb, .inr (3, fg_ kv 0 0 qx qy qs 0 sc qt qh mn qm qd)), (oa, .inr (4, ov_ k1 k2 ba ca qm0 0))] t) (va_A [(ra0, .inr (5, sr_ fa fb oa)), (fb, .inr (3, fg_ kd pn pt qx qy qs pr sc qt qh mn qm qd)), (oa, .inr (4, ov_ k1 k2 ba ca qm0 fr))] sz)) (vx_X (fun _ : Unit => True) (fun E _ t => (E = "java/lang/IllegalArgumentException" ∧ wi_ kv 1 3 = 0) ∧ wd_ g cI cJ cZ (va_A [(ra0, .inr (5, sr_ fa fb oa)), (fb, .inr (3, fg_ kd pn pt qx qy qs pr sc qt qh mn qm qd)), (oa, .inr (4, ov_ k1 k2 ba ca qm0 fr))] sz) [(ra0, .inr (5, sr_ fa fb oa)), (fb, .inr (3, fg_ kd pn pt qx qy qs pr sc qt qh mn qm qd)), (oa, .inr (4, ov_ k1 k2 ba ca qm0 fr))] t) (va_A [(ra0, .inr (5, sr_ fa fb oa)), (fb, .inr (3, fg_ kd pn pt qx qy qs pr sc qt qh mn qm qd)), (oa, .inr (4, ov_ k1 k2 ba ca qm0 fr))] sz)) (2) (12) (va_A [(ra0, .inr (5, sr_ fa fb oa)), (fb, .inr (3, fg_ kd pn pt qx qy qs pr sc qt qh mn qm qd)), (oa, .inr (4, ov_ k1 k2 ba ca qm0 fr))] sz) := by
  refine vx_ofW (cc := cX5_shape) (maxL := 5) (ret := (some .int)) (by decide) rfl ?_
  intro p e s m args below meth c s₁ B hml hnx hv
  obtain ⟨rfl, ⟨hsz, hP, hK, hD0⟩, hev⟩ := hv
  have hx := B.exec
  have hb := B.bytes
  have hr := B.returns
  have hts := atoms_spec (ws := wsX5_shape) B.pre
  have hown : s.vm.findClass RX5 = some m.cls := findClass_of_methodNamed B.named
  have hlocks := B.notSynchronized
  subst hsz
  have hD := hD0.self (sz := s.heap.size)
  generalize hAe : va_A [(ra0, .inr (5, sr_ fa fb oa)), (fb, .inr (3, fg_ kd pn pt qx qy qs pr sc qt qh mn qm qd)), (oa, .inr (4, ov_ k1 k2 ba ca qm0 fr))] s.heap.size = A at hD hev ⊢
  have hA : ∀ q : Nat, s.heap.size ≤ q → A q := fun q h => by rw [← hAe]; exact Or.inr h
  have hS : va_S A s.heap s.heap [] := va_S.rf
  have hP : va_P g vwCl [(ra0, .inr (5, sr_ fa fb oa)), (fb, .inr (3, fg_ kd pn pt qx qy qs pr sc qt qh mn qm qd)), (oa, .inr (4, ov_ k1 k2 ba ca qm0 fr))] s.heap := hP
  have hl := lv_entry ([.ref ra0, .int 1, .int kv]) (n := 5) (Nat.le_of_ble_eq_true rfl)
  rw [lg_entry_eq]
  generalize (lg_sl ([.ref ra0, .int 1, .int kv]) ++ List.replicate (5 - (lg_sl ([.ref ra0, .int 1, .int kv])).length) Slot.unset).toArray = ls at hl ⊢
  have hl : lv_has ls 5 [(0, .ref ra0), (1, .int 1), (2, .int kv)] := hl
  have hH0 : s.heap = s.heap := rfl
  have hiX3 := ikX5_shape1_X3
  have hiX5 := ikX5_shape1_X5
  refine lv_aload_n hx hb dX5_shape_0 rfl (lv_at hl 0 rfl) ?_
  refine lv_iload_n hx hb dX5_shape_1 rfl (lv_at hl 1 rfl) ?_
  have hPc := hP.sub (ws' := [(ra0, .inr (5, sr_ fa fb oa))]) [0] rfl
  have hDc := hD.sub (ws' := [(ra0, .inr (5, sr_ fa fb oa))]) [0] (by decide) rfl
  have hFc := va_free (wc := [(ra0, .inr (5, sr_ fa fb oa))]) hD hS hA [0] rfl
  refine vx_callr (vx_runV (As := [.int 1]) (rest := []) ⟨hx, hb, hml, hown, hts⟩ (kX5_figureOf l g cI cJ cZ s.heap.size hlt ra0 fa fb oa 1 fb (fun h => absurd h (by decide)) (fun _ => rfl)) (cwV 1 hts gX5_shape_X5_figureOf rfl rfl rfl (by decide +kernel) ⟨Nat.le_of_ble_eq_true rfl, Nat.le_of_ble_eq_true rfl⟩) (pve_ hev hS hFc hK hPc hDc (va_recv hK hPc (ci := 5) (q0 := 0) rfl rfl)) rfl rfl hl.1 rfl (lv_room (Nat.le_of_ble_eq_true rfl)) dX5_shape_2 ⟨by show 0 + 1 ≤ 2; omega, by show 0 + 6 ≤ 12; omega⟩) hS (fun q _ h => hFc q h) hFc (fun q _ h => hFc q h) (fun E ce q9 u t H1 locs ht hvm _ hBX hz1 hk1 hS hce hcv hcl => ?_) (fun u rg t H1 locs ht hvm hw hB hz1 hk1 hS => ?_)
  · obtain ⟨hE, hP1, hK1, hD1⟩ := hBX
    rw [ht] at hP1
    obtain ⟨hP, hD⟩ := va_join (wr := [(fb, .inr (3, fg_ kd pn pt qx qy qs pr sc qt qh mn qm qd)), (oa, .inr (4, ov_ k1 k2 ba ca qm0 fr))]) (w1 := [(ra0, .inr (5, sr_ fa fb oa))]) hP hD [0] [1, 2] rfl rfl (by decide) (by decide) hk1 hFc hP1 hD1
    clear hPc hDc hFc hP1 hD1 hK1 hk1 hz1 hvm ht
    generalize H1 = H at hP hS hce ⊢
    have hP : va_P g vwCl [(fb, .inr (3, fg_ kd pn pt qx qy qs pr sc qt qh mn qm qd)), (oa, .inr (4, ov_ k1 k2 ba ca qm0 fr)), (ra0, .inr (5, sr_ fa fb oa))] H := hP
    have hD : va_D A [(fb, .inr (3, fg_ kd pn pt qx qy qs pr sc qt qh mn qm qd)), (oa, .inr (4, ov_ k1 k2 ba ca qm0 fr)), (ra0, .inr (5, sr_ fa fb oa))] := hD
    exact absurd rfl hE.2.2
  · obtain ⟨hra, hP1, hK1, hD1⟩ := hB
    rw [ht] at hP1
    obtain ⟨hP, hD⟩ := va_join (wr := [(fb, .inr (3, fg_ kd pn pt qx qy qs pr sc qt qh mn qm qd)), (oa, .inr (4, ov_ k1 k2 ba ca qm0 fr))]) (w1 := [(ra0, .inr (5, sr_ fa fb oa))]) hP hD [0] [1, 2] rfl rfl (by decide) (by decide) hk1 hFc hP1 hD1
    clear hPc hDc hFc hP1 hD1 hK1 hk1 hz1 hvm ht
    generalize H1 = H at hP hS ⊢
    have hP : va_P g vwCl [(fb, .inr (3, fg_ kd pn pt qx qy qs pr sc qt qh mn qm qd)), (oa, .inr (4, ov_ k1 k2 ba ca qm0 fr)), (ra0, .inr (5, sr_ fa fb oa))] H := hP
    have hD : va_D A [(fb, .inr (3, fg_ kd pn pt qx qy qs pr sc qt qh mn qm qd)), (oa, .inr (4, ov_ k1 k2 ba ca qm0 fr)), (ra0, .inr (5, sr_ fa fb oa))] := hD
    rw [hra]
    refine lv_astore_n (lv' := [(3, .ref fb), (0, .ref ra0), (1, .int 1), (2, .int kv)]) hx hb dX5_shape_5 rfl hl (by decide) rfl (fun ls hl => ?_)
    refine lv_iload_n hx hb dX5_shape_6 rfl (lv_at hl 3 rfl) ?_
    refine lv_iconst (v := 1) hx hb dX5_shape_7 (by decide) ?_
    refine lv_icmp_lt (tgt := 16) hx hb dX5_shape_8 (by decide) (fun c1 => ?_) (fun c1 => ?_)
    · have hP9 := hP.sub (ws' := [(ra0, .inr (5, sr_ fa fb oa)), (fb, .inr (3, fg_ kd pn pt qx qy qs pr sc qt qh mn qm qd)), (oa, .inr (4, ov_ k1 k2 ba ca qm0 fr))]) [2, 0, 1] rfl
      have hD9 := hD.sub (ws' := [(ra0, .inr (5, sr_ fa fb oa)), (fb, .inr (3, fg_ kd pn pt qx qy qs pr sc qt qh mn qm qd)), (oa, .inr (4, ov_ k1 k2 ba ca qm0 fr))]) [2, 0, 1] (by decide) rfl
      obtain ⟨sa, hsa⟩ := hev.1.2.1 (34, "no such kind") (List.mem_of_getElem? (i := 1) rfl)
      exact vx_throwS (A := A) (names := nm2_) (cls := "java/lang/IllegalArgumentException") hx hb hlt hown fi2_ fin_ (hts (.classLink RX5 32 "java/lang/IllegalArgumentException") (List.mem_of_getElem? (i := 1) rfl)) (hts (.initialized "java/lang/IllegalArgumentException") (List.mem_of_getElem? (i := 2) rfl)) hsa (vx_hat (B := evB_) (fun w hw => hts w (List.mem_cons_of_mem _ (List.mem_append_left _ (List.mem_append_right _ hw)))) nb2_ (evB_u hev.1)) go2_ hev.2.1 hev.2.2 hS (hl.1.trans hml.symm) dX5_shape_16 dX5_shape_19 dX5_shape_20 dX5_shape_22 dX5_shape_25 (fun x hx9 => (hnx x hx9).elim) (Nat.le_of_ble_eq_true rfl) (Nat.le_of_ble_eq_true rfl) (by show 0 + 1 + 1 ≤ 2; omega) (by show 0 + 6 + 6 ≤ 12; omega) hlocks (fun t hvm hz hq => ⟨(), trivial, ⟨⟨rfl, (wi1_ c1).symm⟩, vp_k hP9 hq, va_K.moved hvm hK, hD9⟩, vf_k hS hz hq⟩) hS.2.2 (by show 0 + 1 + 1 ≤ 2; omega) (by show 0 + 6 + 6 ≤ 12; omega)
    · refine lv_iload_n hx hb dX5_shape_11 rfl (lv_at hl 3 rfl) ?_
      refine lv_iconst (v := 3) hx hb dX5_shape_12 (by decide) ?_
      refine lv_icmp_le (tgt := 26) hx hb dX5_shape_13 (by decide) (fun c2 => ?_) (fun c2 => ?_)
      · refine lv_aload_n hx hb dX5_shape_26 rfl (lv_at hl 0 rfl) ?_
        refine va_get (D := g) (ci := 3) (v := .int pt) (C := RX3) (T := TX3) (N := 13) hx hb hts hiX3 hown hK hP 0 rfl rfl 2 (by decide) (hts (.fieldLink RX5 39 "ShapeRelator$Figure" "pointCount" "I") (List.mem_of_getElem? (i := 3) rfl)) (fun _ h9 => h9) rfl dX5_shape_27 ?_
        refine lv_istore (lv' := [(4, .int pt), (3, .ref fb), (0, .ref ra0), (1, .int 1), (2, .int kv)]) hx hb dX5_shape_30 hl (by decide) rfl (fun ls hl => ?_)
        refine lv_aload_n hx hb dX5_shape_32 rfl (lv_at hl 1 rfl) ?_
        refine lv_iload_n hx hb dX5_shape_33 rfl (lv_at hl 4 rfl) ?_
        have hPc := hP.sub (ws' := [(fb, .inr (3, fg_ kd pn pt qx qy qs pr sc qt qh mn qm qd))]) [0] rfl
        have hDc := hD.sub (ws' := [(fb, .inr (3, fg_ kd pn pt qx qy qs pr sc qt qh mn qm qd))]) [0] (by decide) rfl
        have hFc := va_free (wc := [(fb, .inr (3, fg_ kd pn pt qx qy qs pr sc qt qh mn qm qd))]) hD hS hA [0] rfl
        refine va_callv (va_runV (As := [.int kv]) (rest := []) ⟨hx, hb, hml, hown, hts⟩ (kX3_beginAnew l g cI cJ cZ H.size fb kd pn pt qx qy qs pr sc qt qh mn qm qd kv) (cwV 1 hts gX5_shape_X3_beginAnew rfl rfl rfl (by decide +kernel) ⟨Nat.le_of_ble_eq_true rfl, Nat.le_of_ble_eq_true rfl⟩) (pv_ hK hPc hDc (va_recv hK hPc (ci := 3) (q0 := 0) rfl rfl)) rfl rfl hl.1 rfl (lv_room (Nat.le_of_ble_eq_true rfl)) dX5_shape_34 ⟨by show 0 + 1 + 0 ≤ 2; omega, by show 0 + 6 + 0 ≤ 12; omega⟩) hS (fun q _ h => hFc q h) hFc (fun u t H1 locs ht hvm hw hB hz1 hk1 hS => ?_)
        obtain ⟨hP1, hK1, hD1⟩ := hB
        rw [ht] at hP1
        obtain ⟨hP, hD⟩ := va_join (wr := [(oa, .inr (4, ov_ k1 k2 ba ca qm0 fr)), (ra0, .inr (5, sr_ fa fb oa))]) (w1 := [(fb, .inr (3, fg_ kv 0 0 qx qy qs 0 sc qt qh mn qm qd))]) hP hD [0] [1, 2] rfl rfl (by decide) (by decide) hk1 hFc hP1 hD1
        clear hPc hDc hFc hP1 hD1 hK1 hk1 hz1 hvm ht
        generalize H1 = H at hP hS ⊢
        have hP : va_P g vwCl [(oa, .inr (4, ov_ k1 k2 ba ca qm0 fr)), (ra0, .inr (5, sr_ fa fb oa)), (fb, .inr (3, fg_ kv 0 0 qx qy qs 0 sc qt qh mn qm qd))] H := hP
        have hD : va_D A [(oa, .inr (4, ov_ k1 k2 ba ca qm0 fr)), (ra0, .inr (5, sr_ fa fb oa)), (fb, .inr (3, fg_ kv 0 0 qx qy qs 0 sc qt qh mn qm qd))] := hD
        refine lv_aload_n hx hb dX5_shape_37 rfl (lv_at hl 2 rfl) ?_
        refine va_get (D := g) (ci := 5) (v := .ref oa) (C := RX5) (T := TX5) (N := 3) hx hb hts hiX5 hown hK hP 1 rfl rfl 2 (by decide) (hts (.fieldLink RX5 24 "ShapeRelator" "overlay" "LShapeRelator$Overlay;") (List.mem_of_getElem? (i := 4) rfl)) (fun _ h9 => h9) rfl dX5_shape_38 ?_
        have hPc := hP.sub (ws' := [(oa, .inr (4, ov_ k1 k2 ba ca qm0 fr))]) [0] rfl
        have hDc := hD.sub (ws' := [(oa, .inr (4, ov_ k1 k2 ba ca qm0 fr))]) [0] (by decide) rfl
        have hFc := va_free (wc := [(oa, .inr (4, ov_ k1 k2 ba ca qm0 fr))]) hD hS hA [0] rfl
        refine va_callv (va_runV (As := []) (rest := []) ⟨hx, hb, hml, hown, hts⟩ (kX4_forget l g cI cJ cZ H.size oa k1 k2 ba ca qm0 fr) (cwV 0 hts gX5_shape_X4_forget rfl rfl rfl (by decide +kernel) ⟨Nat.le_of_ble_eq_true rfl, Nat.le_of_ble_eq_true rfl⟩) (pv_ hK hPc hDc (va_recv hK hPc (ci := 4) (q0 := 0) rfl rfl)) rfl rfl hl.1 rfl (lv_room (Nat.le_of_ble_eq_true rfl)) dX5_shape_41 ⟨by show 0 + 1 + 0 ≤ 2; omega, by show 0 + 6 + 0 ≤ 12; omega⟩) hS (fun q _ h => hFc q h) hFc (fun u t H1 locs ht hvm hw hB hz1 hk1 hS => ?_)
        obtain ⟨hP1, hK1, hD1⟩ := hB
        rw [ht] at hP1
        obtain ⟨hP, hD⟩ := va_join (wr := [(ra0, .inr (5, sr_ fa fb oa)), (fb, .inr (3, fg_ kv 0 0 qx qy qs 0 sc qt qh mn qm qd))]) (w1 := [(oa, .inr (4, ov_ k1 k2 ba ca qm0 0))]) hP hD [0] [1, 2] rfl rfl (by decide) (by decide) hk1 hFc hP1 hD1
        clear hPc hDc hFc hP1 hD1 hK1 hk1 hz1 hvm ht
        generalize H1 = H at hP hS ⊢
        have hP : va_P g vwCl [(ra0, .inr (5, sr_ fa fb oa)), (fb, .inr (3, fg_ kv 0 0 qx qy qs 0 sc qt qh mn qm qd)), (oa, .inr (4, ov_ k1 k2 ba ca qm0 0))] H := hP
        have hD : va_D A [(ra0, .inr (5, sr_ fa fb oa)), (fb, .inr (3, fg_ kv 0 0 qx qy qs 0 sc qt qh mn qm qd)), (oa, .inr (4, ov_ k1 k2 ba ca qm0 0))] := hD
        refine lv_iload hx hb dX5_shape_44 (lv_at hl 0 rfl) ?_
        refine W.widen (k := 2) (n := 12) (by omega) (by omega) ?_
        have hP9 := hP.sub (ws' := [(ra0, .inr (5, sr_ fa fb oa)), (fb, .inr (3, fg_ kv 0 0 qx qy qs 0 sc qt qh mn qm qd)), (oa, .inr (4, ov_ k1 k2 ba ca qm0 0))]) [0, 1, 2] rfl
        have hD9 := hD.sub (ws' := [(ra0, .inr (5, sr_ fa fb oa)), (fb, .inr (3, fg_ kv 0 0 qx qy qs 0 sc qt qh mn qm qd)), (oa, .inr (4, ov_ k1 k2 ba ca qm0 0))]) [0, 1, 2] (by decide) rfl
        refine vx_ret ?_
        exact W.iret (v := pt) hx hb hr (fun t ht hW => ⟨⟨pt, (), rfl, ⟨by rw [← wi3_ c1 (Int32.not_lt.mpr c2)]; decide, rfl⟩, by rw [ht]; exact hP9, va_K.moved hW.alike hK, hD9⟩, hS.F ht⟩) hS.2.2 dX5_shape_46
      · have hP9 := hP.sub (ws' := [(ra0, .inr (5, sr_ fa fb oa)), (fb, .inr (3, fg_ kd pn pt qx qy qs pr sc qt qh mn qm qd)), (oa, .inr (4, ov_ k1 k2 ba ca qm0 fr))]) [2, 0, 1] rfl
        have hD9 := hD.sub (ws' := [(ra0, .inr (5, sr_ fa fb oa)), (fb, .inr (3, fg_ kd pn pt qx qy qs pr sc qt qh mn qm qd)), (oa, .inr (4, ov_ k1 k2 ba ca qm0 fr))]) [2, 0, 1] (by decide) rfl
        obtain ⟨sa, hsa⟩ := hev.1.2.1 (34, "no such kind") (List.mem_of_getElem? (i := 1) rfl)
        exact vx_throwS (A := A) (names := nm2_) (cls := "java/lang/IllegalArgumentException") hx hb hlt hown fi2_ fin_ (hts (.classLink RX5 32 "java/lang/IllegalArgumentException") (List.mem_of_getElem? (i := 1) rfl)) (hts (.initialized "java/lang/IllegalArgumentException") (List.mem_of_getElem? (i := 2) rfl)) hsa (vx_hat (B := evB_) (fun w hw => hts w (List.mem_cons_of_mem _ (List.mem_append_left _ (List.mem_append_right _ hw)))) nb2_ (evB_u hev.1)) go2_ hev.2.1 hev.2.2 hS (hl.1.trans hml.symm) dX5_shape_16 dX5_shape_19 dX5_shape_20 dX5_shape_22 dX5_shape_25 (fun x hx9 => (hnx x hx9).elim) (Nat.le_of_ble_eq_true rfl) (Nat.le_of_ble_eq_true rfl) (by show 0 + 1 + 1 ≤ 2; omega) (by show 0 + 6 + 6 ≤ 12; omega) hlocks (fun t hvm hz hq => ⟨(), trivial, ⟨⟨rfl, (wi2_ (Int32.not_le.mp c2)).symm⟩, vp_k hP9 hq, va_K.moved hvm hK, hD9⟩, vf_k hS hz hq⟩) hS.2.2 (by show 0 + 1 + 1 ≤ 2; omega) (by show 0 + 6 + 6 ≤ 12; omega)

theorem ikX5_part1_X3 : ∀ w ∈ wsX30, w ∈ wsX5_part := by decide +kernel
set_option maxHeartbeats 1000000 in
set_option maxRecDepth 100000 in
theorem kX5_part1 (l : Launch) (g : va_G) (cI cJ cZ : ClassId) (sz : Nat) (hlt : l.stackTraces = false) (ra0 : Nat) (fa : Nat) (fb : Nat) (oa : Nat) (kd : Int32) (pt : Int32) (qx : Nat) (qy : Nat) (qs : Nat) (pr : Int32) (sc : Int32) (qt : Nat) (qh : Nat) (mn : Int32) (qm : Nat) (qd : Nat) (cp : Nat) (st : Nat → Int32) (k : Nat) (g1 : cp < 100000) (g2 : k ≤ cp) (g0 : 16 ≤ cp) : vx_Met l yX5_part wsX5_part ({ frames := 7, cells := 2, slots := 6 + 2 * cp, locals := 103 }) (pce_ g cI cJ cZ [.ref ra0, .int 1] [(ra0, .inr (5, sr_ fa fb oa)), (fb, .inr (3, fg_ kd (nI k) pt qx qy qs pr sc qt qh mn qm qd)), (qs, .inl (cI, cp, .inl st))] sz) (va_Qi (fun (r : Int32) (st2 : (Nat → Int32)) => k < 1024 ∧ r = nI (k + 1) ∧ (∀ i, i < k → st2 i = st i) ∧ st2 k = pt) (fun (st2 : (Nat → Int32)) t => ∃ (qs2 : Nat), wd_ g cI cJ cZ (va_A [(ra0, .inr (5, sr_ fa fb oa)), (fb, .inr (3, fg_ kd (nI k) pt qx qy qs pr sc qt qh mn qm qd)), (qs, .inl (cI, cp, .inl st))] sz) [(ra0, .inr (5, sr_ fa fb oa)), (fb, .inr (3, fg_ kd (nI (k + 1)) pt qx qy qs2 0 sc qt qh mn qm qd)), (qs2, .inl (cI, gcap_ k cp, .inl st2))] t) (va_A [(ra0, .inr (5, sr_ fa fb oa)), (fb, .inr (3, fg_ kd (nI k) pt qx qy qs pr sc qt qh mn qm qd)), (qs, .inl (cI, cp, .inl st))] sz)) (vx_X (fun _ : Unit => True) (fun E _ t => (E = "java/lang/IllegalStateException" ∧ ¬ k < 1024) ∧ wd_ g cI cJ cZ (va_A [(ra0, .inr (5, sr_ fa fb oa)), (fb, .inr (3, fg_ kd (nI k) pt qx qy qs pr sc qt qh mn qm qd)), (qs, .inl (cI, cp, .inl st))] sz) [(ra0, .inr (5, sr_ fa fb oa)), (fb, .inr (3, fg_ kd (nI k) pt qx qy qs pr sc qt qh mn qm qd)), (qs, .inl (cI, cp, .inl st))] t) (va_A [(ra0, .inr (5, sr_ fa fb oa)), (fb, .inr (3, fg_ kd (nI k) pt qx qy qs pr sc qt qh mn qm qd)), (qs, .inl (cI, cp, .inl st))] sz)) (2) (6 + 2 * cp) (va_A [(ra0, .inr (5, sr_ fa fb oa)), (fb, .inr (3, fg_ kd (nI k) pt qx qy qs pr sc qt qh mn qm qd)), (qs, .inl (cI, cp, .inl st))] sz) := by
  refine vx_ofW (cc := cX5_part) (maxL := 3) (ret := (some .int)) (by decide) rfl ?_
  intro p e s m args below meth c s₁ B hml hnx hv
  obtain ⟨rfl, ⟨hsz, hP, hK, hD0⟩, hev⟩ := hv
  have hx := B.exec
  have hb := B.bytes
  have hr := B.returns
  have hts := atoms_spec (ws := wsX5_part) B.pre
  have hown : s.vm.findClass RX5 = some m.cls := findClass_of_methodNamed B.named
  have hlocks := B.notSynchronized
  subst hsz
  have hD := hD0.self (sz := s.heap.size)
  generalize hAe : va_A [(ra0, .inr (5, sr_ fa fb oa)), (fb, .inr (3, fg_ kd (nI k) pt qx qy qs pr sc qt qh mn qm qd)), (qs, .inl (cI, cp, .inl st))] s.heap.size = A at hD hev ⊢
  have hA : ∀ q : Nat, s.heap.size ≤ q → A q := fun q h => by rw [← hAe]; exact Or.inr h
  have hS : va_S A s.heap s.heap [] := va_S.rf
  have hP : va_P g vwCl [(ra0, .inr (5, sr_ fa fb oa)), (fb, .inr (3, fg_ kd (nI k) pt qx qy qs pr sc qt qh mn qm qd)), (qs, .inl (cI, cp, .inl st))] s.heap := hP
  have hl := lv_entry ([.ref ra0, .int 1]) (n := 3) (Nat.le_of_ble_eq_true rfl)
  rw [lg_entry_eq]
  generalize (lg_sl ([.ref ra0, .int 1]) ++ List.replicate (3 - (lg_sl ([.ref ra0, .int 1])).length) Slot.unset).toArray = ls at hl ⊢
  have hl : lv_has ls 3 [(0, .ref ra0), (1, .int 1)] := hl
  have hH0 : s.heap = s.heap := rfl
  have hiX3 := ikX5_part1_X3
  refine lv_aload_n hx hb dX5_part_0 rfl (lv_at hl 0 rfl) ?_
  refine lv_iload_n hx hb dX5_part_1 rfl (lv_at hl 1 rfl) ?_
  have hPc := hP.sub (ws' := [(ra0, .inr (5, sr_ fa fb oa))]) [0] rfl
  have hDc := hD.sub (ws' := [(ra0, .inr (5, sr_ fa fb oa))]) [0] (by decide) rfl
  have hFc := va_free (wc := [(ra0, .inr (5, sr_ fa fb oa))]) hD hS hA [0] rfl
  refine vx_callr (vx_runV (As := [.int 1]) (rest := []) ⟨hx, hb, hml, hown, hts⟩ (kX5_figureOf l g cI cJ cZ s.heap.size hlt ra0 fa fb oa 1 fb (fun h => absurd h (by decide)) (fun _ => rfl)) (cwV 1 hts gX5_part_X5_figureOf rfl rfl rfl (by decide +kernel) ⟨Nat.le_of_ble_eq_true rfl, Nat.le_of_ble_eq_true rfl⟩) (pve_ hev hS hFc hK hPc hDc (va_recv hK hPc (ci := 5) (q0 := 0) rfl rfl)) rfl rfl hl.1 rfl (lv_room (Nat.le_of_ble_eq_true rfl)) dX5_part_2 ⟨by show 0 + 1 ≤ 2; omega, by show 0 + 6 ≤ 6 + 2 * cp; omega⟩) hS (fun q _ h => hFc q h) hFc (fun q _ h => hFc q h) (fun E ce q9 u t H1 locs ht hvm _ hBX hz1 hk1 hS hce hcv hcl => ?_) (fun u rg t H1 locs ht hvm hw hB hz1 hk1 hS => ?_)
  · obtain ⟨hE, hP1, hK1, hD1⟩ := hBX
    rw [ht] at hP1
    obtain ⟨hP, hD⟩ := va_join (wr := [(fb, .inr (3, fg_ kd (nI k) pt qx qy qs pr sc qt qh mn qm qd)), (qs, .inl (cI, cp, .inl st))]) (w1 := [(ra0, .inr (5, sr_ fa fb oa))]) hP hD [0] [1, 2] rfl rfl (by decide) (by decide) hk1 hFc hP1 hD1
    clear hPc hDc hFc hP1 hD1 hK1 hk1 hz1 hvm ht
    generalize H1 = H at hP hS hce ⊢
    have hP : va_P g vwCl [(fb, .inr (3, fg_ kd (nI k) pt qx qy qs pr sc qt qh mn qm qd)), (qs, .inl (cI, cp, .inl st)), (ra0, .inr (5, sr_ fa fb oa))] H := hP
    have hD : va_D A [(fb, .inr (3, fg_ kd (nI k) pt qx qy qs pr sc qt qh mn qm qd)), (qs, .inl (cI, cp, .inl st)), (ra0, .inr (5, sr_ fa fb oa))] := hD
    exact absurd rfl hE.2.2
  · obtain ⟨hra, hP1, hK1, hD1⟩ := hB
    rw [ht] at hP1
    obtain ⟨hP, hD⟩ := va_join (wr := [(fb, .inr (3, fg_ kd (nI k) pt qx qy qs pr sc qt qh mn qm qd)), (qs, .inl (cI, cp, .inl st))]) (w1 := [(ra0, .inr (5, sr_ fa fb oa))]) hP hD [0] [1, 2] rfl rfl (by decide) (by decide) hk1 hFc hP1 hD1
    clear hPc hDc hFc hP1 hD1 hK1 hk1 hz1 hvm ht
    generalize H1 = H at hP hS ⊢
    have hP : va_P g vwCl [(fb, .inr (3, fg_ kd (nI k) pt qx qy qs pr sc qt qh mn qm qd)), (qs, .inl (cI, cp, .inl st)), (ra0, .inr (5, sr_ fa fb oa))] H := hP
    have hD : va_D A [(fb, .inr (3, fg_ kd (nI k) pt qx qy qs pr sc qt qh mn qm qd)), (qs, .inl (cI, cp, .inl st)), (ra0, .inr (5, sr_ fa fb oa))] := hD
    rw [hra]
    refine lv_astore_n (lv' := [(2, .ref fb), (0, .ref ra0), (1, .int 1)]) hx hb dX5_part_5 rfl hl (by decide) rfl (fun ls hl => ?_)
    refine lv_aload_n hx hb dX5_part_6 rfl (lv_at hl 0 rfl) ?_
    refine va_get (D := g) (ci := 3) (v := .int (nI k)) (C := RX3) (T := TX3) (N := 13) hx hb hts hiX3 hown hK hP 0 rfl rfl 1 (by decide) (hts (.fieldLink RX5 50 "ShapeRelator$Figure" "partCount" "I") (List.mem_of_getElem? (i := 3) rfl)) (fun _ h9 => h9) rfl dX5_part_7 ?_
    refine lv_sipush (v := 1024) hx hb dX5_part_10 (by decide) ?_
    refine lv_icmp_lt (tgt := 26) hx hb dX5_part_13 (by decide) (fun c1 => ?_) (fun c1 => ?_)
    · have e1 : k < 1024 := (nI_ltI (by omega) (by decide)).mp c1
      refine lv_aload_n hx hb dX5_part_26 rfl (lv_at hl 0 rfl) ?_
      have hPc := hP.sub (ws' := [(fb, .inr (3, fg_ kd (nI k) pt qx qy qs pr sc qt qh mn qm qd)), (qs, .inl (cI, cp, .inl st))]) [0, 1] rfl
      have hDc := hD.sub (ws' := [(fb, .inr (3, fg_ kd (nI k) pt qx qy qs pr sc qt qh mn qm qd)), (qs, .inl (cI, cp, .inl st))]) [0, 1] (by decide) rfl
      have hFc := va_free (wc := [(fb, .inr (3, fg_ kd (nI k) pt qx qy qs pr sc qt qh mn qm qd)), (qs, .inl (cI, cp, .inl st))]) hD hS hA [0, 1] rfl
      refine va_callv (va_runV (As := []) (rest := []) ⟨hx, hb, hml, hown, hts⟩ (kX3_beginPart l g cI cJ cZ H.size fb kd pt qx qy qs pr sc qt qh mn qm qd cp st k g1 g2 (by omega)) (cwV 0 hts gX5_part_X3_beginPart rfl rfl rfl (by decide +kernel) ⟨Nat.le_of_ble_eq_true rfl, Nat.le_of_ble_eq_true rfl⟩) (pv_ hK hPc hDc (va_recv hK hPc (ci := 3) (q0 := 0) rfl rfl)) rfl rfl hl.1 rfl (lv_room (Nat.le_of_ble_eq_true rfl)) dX5_part_27 ⟨by show 0 + 1 + 1 ≤ 2; omega, by show 0 + 6 + (2 * cp) ≤ 6 + 2 * cp; omega⟩) hS (fun q _ h => hFc q h) hFc (fun u t H1 locs ht hvm hw3 hB hz1 hk1 hS => ?_)
      obtain ⟨st3, rfl⟩ : ∃ z, z = u := ⟨_, rfl⟩
      obtain ⟨qs3, hP1, hK1, hD1⟩ := hB
      rw [ht] at hP1
      obtain ⟨hP, hD⟩ := va_join (wr := [(ra0, .inr (5, sr_ fa fb oa))]) (w1 := [(fb, .inr (3, fg_ kd (nI (k + 1)) pt qx qy qs3 0 sc qt qh mn qm qd)), (qs3, .inl (cI, gcap_ k cp, .inl st3))]) hP hD [0, 1] [2] rfl rfl (by decide) (by decide) hk1 hFc hP1 hD1
      clear hPc hDc hFc hP1 hD1 hK1 hk1 hz1 hvm ht
      generalize H1 = H at hP hS ⊢
      have hP : va_P g vwCl [(ra0, .inr (5, sr_ fa fb oa)), (fb, .inr (3, fg_ kd (nI (k + 1)) pt qx qy qs3 0 sc qt qh mn qm qd)), (qs3, .inl (cI, gcap_ k cp, .inl st3))] H := hP
      have hD : va_D A [(ra0, .inr (5, sr_ fa fb oa)), (fb, .inr (3, fg_ kd (nI (k + 1)) pt qx qy qs3 0 sc qt qh mn qm qd)), (qs3, .inl (cI, gcap_ k cp, .inl st3))] := hD
      refine lv_aload_n hx hb dX5_part_30 rfl (lv_at hl 0 rfl) ?_
      refine va_get (D := g) (ci := 3) (v := .int (nI (k + 1))) (C := RX3) (T := TX3) (N := 13) hx hb hts hiX3 hown hK hP 1 rfl rfl 1 (by decide) (hts (.fieldLink RX5 50 "ShapeRelator$Figure" "partCount" "I") (List.mem_of_getElem? (i := 3) rfl)) (fun _ h9 => h9) rfl dX5_part_31 ?_
      refine W.widen (k := 2) (n := (6 + 2 * cp)) (by omega) (by omega) ?_
      have hP9 := hP.sub (ws' := [(ra0, .inr (5, sr_ fa fb oa)), (fb, .inr (3, fg_ kd (nI (k + 1)) pt qx qy qs3 0 sc qt qh mn qm qd)), (qs3, .inl (cI, gcap_ k cp, .inl st3))]) [0, 1, 2] rfl
      have hD9 := hD.sub (ws' := [(ra0, .inr (5, sr_ fa fb oa)), (fb, .inr (3, fg_ kd (nI (k + 1)) pt qx qy qs3 0 sc qt qh mn qm qd)), (qs3, .inl (cI, gcap_ k cp, .inl st3))]) [0, 1, 2] (by decide) rfl
      refine vx_ret ?_
      exact W.iret (v := (nI (k + 1))) hx hb hr (fun t ht hW => ⟨⟨nI (k + 1), st3, rfl, ⟨e1, rfl, hw3⟩, qs3, by rw [ht]; exact hP9, va_K.moved hW.alike hK, hD9⟩, hS.F ht⟩) hS.2.2 dX5_part_34
    · have hP9 := hP.sub (ws' := [(ra0, .inr (5, sr_ fa fb oa)), (fb, .inr (3, fg_ kd (nI k) pt qx qy qs pr sc qt qh mn qm qd)), (qs, .inl (cI, cp, .inl st))]) [2, 0, 1] rfl
      have hD9 := hD.sub (ws' := [(ra0, .inr (5, sr_ fa fb oa)), (fb, .inr (3, fg_ kd (nI k) pt qx qy qs pr sc qt qh mn qm qd)), (qs, .inl (cI, cp, .inl st))]) [2, 0, 1] (by decide) rfl
      obtain ⟨sa, hsa⟩ := hev.1.2.1 (55, "too many parts") (List.mem_of_getElem? (i := 2) rfl)
      exact vx_throwS (A := A) (names := nm2_) (cls := "java/lang/IllegalStateException") hx hb hlt hown fi3_ fin_ (hts (.classLink RX5 53 "java/lang/IllegalStateException") (List.mem_of_getElem? (i := 1) rfl)) (hts (.initialized "java/lang/IllegalStateException") (List.mem_of_getElem? (i := 2) rfl)) hsa (vx_hat (B := evB_) (fun w hw => hts w (List.mem_cons_of_mem _ (List.mem_append_left _ (List.mem_append_right _ hw)))) nb3_ (evB_u hev.1)) go3_ hev.2.1 hev.2.2 hS (hl.1.trans hml.symm) dX5_part_16 dX5_part_19 dX5_part_20 dX5_part_22 dX5_part_25 (fun x hx9 => (hnx x hx9).elim) (Nat.le_of_ble_eq_true rfl) (Nat.le_of_ble_eq_true rfl) (by show 0 + 1 + 1 ≤ 2; omega) (by show 0 + 6 + 6 ≤ 6 + 2 * cp; omega) hlocks (fun t hvm hz hq => ⟨(), trivial, ⟨⟨rfl, fun h => c1 ((nI_ltI (by omega) (by decide)).mpr h)⟩, vp_k hP9 hq, va_K.moved hvm hK, hD9⟩, vf_k hS hz hq⟩) hS.2.2 (by show 0 + 1 + 1 ≤ 2; omega) (by show 0 + 6 + 6 ≤ 6 + 2 * cp; omega)

theorem ikX5_point1_X3 : ∀ w ∈ wsX30, w ∈ wsX5_point := by decide +kernel
theorem ikX5_point1_X5 : ∀ w ∈ wsX50, w ∈ wsX5_point := by decide +kernel
set_option maxHeartbeats 1000000 in
set_option maxRecDepth 100000 in
theorem kX5_point1 (l : Launch) (g : va_G) (cI cJ cZ : ClassId) (sz : Nat) (hlt : l.stackTraces = false) (ra0 : Nat) (fa : Nat) (fb : Nat) (oa : Nat) (kd : Int32) (qx : Nat) (qy : Nat) (qs : Nat) (pr : Int32) (sc : Int32) (qt : Nat) (qh : Nat) (mn : Int32) (qm : Nat) (qd : Nat) (k1 : Nat) (k2 : Nat) (ba : Nat) (ca : Nat) (qm0 : Nat) (fr : Int32) (cx : Nat) (xs : Nat → Int32) (ys : Nat → Int32) (np : Nat) (k : Nat) (x1 : Int32) (y1 : Int32) (g1 : cx < 100000) (g2 : k ≤ cx) (g0 : 16 ≤ cx) (g3 : np < 100000) : vx_Met l yX5_point wsX5_point ({ frames := 7, cells := 4, slots := 12 + 4 * cx, locals := 104 }) (pce_ g cI cJ cZ [.ref ra0, .int 1, .int x1, .int y1] [(ra0, .inr (5, sr_ fa fb oa)), (fb, .inr (3, fg_ kd (nI np) (nI k) qx qy qs pr sc qt qh mn qm qd)), (qx, .inl (cI, cx, .inl xs)), (qy, .inl (cI, cx, .inl ys)), (oa, .inr (4, ov_ k1 k2 ba ca qm0 fr))] sz) (va_Qi (fun (r : Int32) (u : (Nat → Int32) × (Nat → Int32)) => match u with | (xs2, ys2) => (far_ x1 = 0 ∧ far_ y1 = 0 ∧ ¬ np = 0 ∧ k < 2048) ∧ r = nI (k + 1) ∧ (∀ i, i < k → xs2 i = xs i ∧ ys2 i = ys i) ∧ xs2 k = x1 ∧ ys2 k = y1) (fun (u : (Nat → Int32) × (Nat → Int32)) t => match u with | (xs2, ys2) => ∃ (qx2 : Nat) (qy2 : Nat), wd_ g cI cJ cZ (va_A [(ra0, .inr (5, sr_ fa fb oa)), (fb, .inr (3, fg_ kd (nI np) (nI k) qx qy qs pr sc qt qh mn qm qd)), (qx, .inl (cI, cx, .inl xs)), (qy, .inl (cI, cx, .inl ys)), (oa, .inr (4, ov_ k1 k2 ba ca qm0 fr))] sz) [(ra0, .inr (5, sr_ fa fb oa)), (fb, .inr (3, fg_ kd (nI np) (nI (k + 1)) qx2 qy2 qs 0 sc qt qh mn qm qd)), (qx2, .inl (cI, gcap_ k cx, .inl xs2)), (qy2, .inl (cI, gcap_ k cx, .inl ys2)), (oa, .inr (4, ov_ k1 k2 ba ca qm0 0))] t) (va_A [(ra0, .inr (5, sr_ fa fb oa)), (fb, .inr (3, fg_ kd (nI np) (nI k) qx qy qs pr sc qt qh mn qm qd)), (qx, .inl (cI, cx, .inl xs)), (qy, .inl (cI, cx, .inl ys)), (oa, .inr (4, ov_ k1 k2 ba ca qm0 fr))] sz)) (vx_X (fun _ : Unit => True) (fun E _ t => ((E = "java/lang/IllegalArgumentException" ∧ (¬ far_ x1 = 0 ∨ ¬ far_ y1 = 0)) ∨ (E = "java/lang/IllegalStateException" ∧ far_ x1 = 0 ∧ far_ y1 = 0 ∧ (np = 0 ∨ ¬ k < 2048))) ∧ wd_ g cI cJ cZ (va_A [(ra0, .inr (5, sr_ fa fb oa)), (fb, .inr (3, fg_ kd (nI np) (nI k) qx qy qs pr sc qt qh mn qm qd)), (qx, .inl (cI, cx, .inl xs)), (qy, .inl (cI, cx, .inl ys)), (oa, .inr (4, ov_ k1 k2 ba ca qm0 fr))] sz) [(ra0, .inr (5, sr_ fa fb oa)), (fb, .inr (3, fg_ kd (nI np) (nI k) qx qy qs pr sc qt qh mn qm qd)), (qx, .inl (cI, cx, .inl xs)), (qy, .inl (cI, cx, .inl ys)), (oa, .inr (4, ov_ k1 k2 ba ca qm0 fr))] t) (va_A [(ra0, .inr (5, sr_ fa fb oa)), (fb, .inr (3, fg_ kd (nI np) (nI k) qx qy qs pr sc qt qh mn qm qd)), (qx, .inl (cI, cx, .inl xs)), (qy, .inl (cI, cx, .inl ys)), (oa, .inr (4, ov_ k1 k2 ba ca qm0 fr))] sz)) (4) (12 + 4 * cx) (va_A [(ra0, .inr (5, sr_ fa fb oa)), (fb, .inr (3, fg_ kd (nI np) (nI k) qx qy qs pr sc qt qh mn qm qd)), (qx, .inl (cI, cx, .inl xs)), (qy, .inl (cI, cx, .inl ys)), (oa, .inr (4, ov_ k1 k2 ba ca qm0 fr))] sz) := by
  refine vx_ofW (cc := cX5_point) (maxL := 5) (ret := (some .int)) (by decide) rfl ?_
  intro p e s m args below meth c s₁ B hml hnx hv
  obtain ⟨rfl, ⟨hsz, hP, hK, hD0⟩, hev⟩ := hv
  have hx := B.exec
  have hb := B.bytes
  have hr := B.returns
  have hts := atoms_spec (ws := wsX5_point) B.pre
  have hown : s.vm.findClass RX5 = some m.cls := findClass_of_methodNamed B.named
  have hlocks := B.notSynchronized
  subst hsz
  have hD := hD0.self (sz := s.heap.size)
  generalize hAe : va_A [(ra0, .inr (5, sr_ fa fb oa)), (fb, .inr (3, fg_ kd (nI np) (nI k) qx qy qs pr sc qt qh mn qm qd)), (qx, .inl (cI, cx, .inl xs)), (qy, .inl (cI, cx, .inl ys)), (oa, .inr (4, ov_ k1 k2 ba ca qm0 fr))] s.heap.size = A at hD hev ⊢
  have hA : ∀ q : Nat, s.heap.size ≤ q → A q := fun q h => by rw [← hAe]; exact Or.inr h
  have hS : va_S A s.heap s.heap [] := va_S.rf
  have hP : va_P g vwCl [(ra0, .inr (5, sr_ fa fb oa)), (fb, .inr (3, fg_ kd (nI np) (nI k) qx qy qs pr sc qt qh mn qm qd)), (qx, .inl (cI, cx, .inl xs)), (qy, .inl (cI, cx, .inl ys)), (oa, .inr (4, ov_ k1 k2 ba ca qm0 fr))] s.heap := hP
  have hl := lv_entry ([.ref ra0, .int 1, .int x1, .int y1]) (n := 5) (Nat.le_of_ble_eq_true rfl)
  rw [lg_entry_eq]
  generalize (lg_sl ([.ref ra0, .int 1, .int x1, .int y1]) ++ List.replicate (5 - (lg_sl ([.ref ra0, .int 1, .int x1, .int y1])).length) Slot.unset).toArray = ls at hl ⊢
  have hl : lv_has ls 5 [(0, .ref ra0), (1, .int 1), (2, .int x1), (3, .int y1)] := hl
  have hH0 : s.heap = s.heap := rfl
  have hiX3 := ikX5_point1_X3
  have hiX5 := ikX5_point1_X5
  refine lv_aload_n hx hb dX5_point_0 rfl (lv_at hl 0 rfl) ?_
  refine lv_iload_n hx hb dX5_point_1 rfl (lv_at hl 1 rfl) ?_
  have hPc := hP.sub (ws' := [(ra0, .inr (5, sr_ fa fb oa))]) [0] rfl
  have hDc := hD.sub (ws' := [(ra0, .inr (5, sr_ fa fb oa))]) [0] (by decide) rfl
  have hFc := va_free (wc := [(ra0, .inr (5, sr_ fa fb oa))]) hD hS hA [0] rfl
  refine vx_callr (vx_runV (As := [.int 1]) (rest := []) ⟨hx, hb, hml, hown, hts⟩ (kX5_figureOf l g cI cJ cZ s.heap.size hlt ra0 fa fb oa 1 fb (fun h => absurd h (by decide)) (fun _ => rfl)) (cwV 1 hts gX5_point_X5_figureOf rfl rfl rfl (by decide +kernel) ⟨Nat.le_of_ble_eq_true rfl, Nat.le_of_ble_eq_true rfl⟩) (pve_ hev hS hFc hK hPc hDc (va_recv hK hPc (ci := 5) (q0 := 0) rfl rfl)) rfl rfl hl.1 rfl (lv_room (Nat.le_of_ble_eq_true rfl)) dX5_point_2 ⟨by show 0 + 1 ≤ 4; omega, by show 0 + 6 ≤ 12 + 4 * cx; omega⟩) hS (fun q _ h => hFc q h) hFc (fun q _ h => hFc q h) (fun E ce q9 u t H1 locs ht hvm _ hBX hz1 hk1 hS hce hcv hcl => ?_) (fun u rg t H1 locs ht hvm hw hB hz1 hk1 hS => ?_)
  · obtain ⟨hE, hP1, hK1, hD1⟩ := hBX
    rw [ht] at hP1
    obtain ⟨hP, hD⟩ := va_join (wr := [(fb, .inr (3, fg_ kd (nI np) (nI k) qx qy qs pr sc qt qh mn qm qd)), (qx, .inl (cI, cx, .inl xs)), (qy, .inl (cI, cx, .inl ys)), (oa, .inr (4, ov_ k1 k2 ba ca qm0 fr))]) (w1 := [(ra0, .inr (5, sr_ fa fb oa))]) hP hD [0] [1, 2, 3, 4] rfl rfl (by decide) (by decide) hk1 hFc hP1 hD1
    clear hPc hDc hFc hP1 hD1 hK1 hk1 hz1 hvm ht
    generalize H1 = H at hP hS hce ⊢
    have hP : va_P g vwCl [(fb, .inr (3, fg_ kd (nI np) (nI k) qx qy qs pr sc qt qh mn qm qd)), (qx, .inl (cI, cx, .inl xs)), (qy, .inl (cI, cx, .inl ys)), (oa, .inr (4, ov_ k1 k2 ba ca qm0 fr)), (ra0, .inr (5, sr_ fa fb oa))] H := hP
    have hD : va_D A [(fb, .inr (3, fg_ kd (nI np) (nI k) qx qy qs pr sc qt qh mn qm qd)), (qx, .inl (cI, cx, .inl xs)), (qy, .inl (cI, cx, .inl ys)), (oa, .inr (4, ov_ k1 k2 ba ca qm0 fr)), (ra0, .inr (5, sr_ fa fb oa))] := hD
    exact absurd rfl hE.2.2
  · obtain ⟨hra, hP1, hK1, hD1⟩ := hB
    rw [ht] at hP1
    obtain ⟨hP, hD⟩ := va_join (wr := [(fb, .inr (3, fg_ kd (nI np) (nI k) qx qy qs pr sc qt qh mn qm qd)), (qx, .inl (cI, cx, .inl xs)), (qy, .inl (cI, cx, .inl ys)), (oa, .inr (4, ov_ k1 k2 ba ca qm0 fr))]) (w1 := [(ra0, .inr (5, sr_ fa fb oa))]) hP hD [0] [1, 2, 3, 4] rfl rfl (by decide) (by decide) hk1 hFc hP1 hD1
    clear hPc hDc hFc hP1 hD1 hK1 hk1 hz1 hvm ht
    generalize H1 = H at hP hS ⊢
    have hP : va_P g vwCl [(fb, .inr (3, fg_ kd (nI np) (nI k) qx qy qs pr sc qt qh mn qm qd)), (qx, .inl (cI, cx, .inl xs)), (qy, .inl (cI, cx, .inl ys)), (oa, .inr (4, ov_ k1 k2 ba ca qm0 fr)), (ra0, .inr (5, sr_ fa fb oa))] H := hP
    have hD : va_D A [(fb, .inr (3, fg_ kd (nI np) (nI k) qx qy qs pr sc qt qh mn qm qd)), (qx, .inl (cI, cx, .inl xs)), (qy, .inl (cI, cx, .inl ys)), (oa, .inr (4, ov_ k1 k2 ba ca qm0 fr)), (ra0, .inr (5, sr_ fa fb oa))] := hD
    rw [hra]
    refine lv_astore (lv' := [(4, .ref fb), (0, .ref ra0), (1, .int 1), (2, .int x1), (3, .int y1)]) hx hb dX5_point_5 hl (by decide) rfl (fun ls hl => ?_)
    refine lv_iload_n hx hb dX5_point_7 rfl (lv_at hl 3 rfl) ?_
    refine lv_iload_n hx hb dX5_point_8 rfl (lv_at hl 4 rfl) ?_
    have hPc := hP.sub (ws' := []) [] rfl
    have hDc := hD.sub (ws' := []) [] (by decide) rfl
    have hFc := va_free (wc := []) hD hS hA [] rfl
    refine vx_callv (vx_runS (As := [.int x1, .int y1]) (rest := []) ⟨hx, hb, hml, hown, hts⟩ (kX5_refuseFarPlace l g cI cJ cZ H.size hlt x1 y1) (va_cwS 2 hts gX5_point_X5_refuseFarPlace rfl rfl rfl (by decide +kernel) ⟨Nat.le_of_ble_eq_true rfl, Nat.le_of_ble_eq_true rfl⟩) (pse_ hev hS hFc hK hPc hDc) rfl rfl hl.1 rfl (lv_room (Nat.le_of_ble_eq_true rfl)) dX5_point_9 ⟨by show 0 + 1 + 1 ≤ 4; omega, by show 0 + 6 + 6 ≤ 12 + 4 * cx; omega⟩) hS (fun q _ h => hFc q h) hFc (fun q _ h => hFc q h) (fun E ce q9 u t H1 locs ht hvm _ hBX hz1 hk1 hS hce hcv hcl => ?_) (fun u t H1 locs ht hvm hwr hB hz1 hk1 hS => ?_)
    · obtain ⟨hE, hP1, hK1, hD1⟩ := hBX
      rw [ht] at hP1
      obtain ⟨hP, hD⟩ := va_join (wr := [(fb, .inr (3, fg_ kd (nI np) (nI k) qx qy qs pr sc qt qh mn qm qd)), (qx, .inl (cI, cx, .inl xs)), (qy, .inl (cI, cx, .inl ys)), (oa, .inr (4, ov_ k1 k2 ba ca qm0 fr)), (ra0, .inr (5, sr_ fa fb oa))]) (w1 := []) hP hD [] [0, 1, 2, 3, 4] rfl rfl (by decide) (by decide) hk1 hFc hP1 hD1
      clear hPc hDc hFc hP1 hD1 hK1 hk1 hz1 hvm ht
      generalize H1 = H at hP hS hce ⊢
      have hP : va_P g vwCl [(fb, .inr (3, fg_ kd (nI np) (nI k) qx qy qs pr sc qt qh mn qm qd)), (qx, .inl (cI, cx, .inl xs)), (qy, .inl (cI, cx, .inl ys)), (oa, .inr (4, ov_ k1 k2 ba ca qm0 fr)), (ra0, .inr (5, sr_ fa fb oa))] H := hP
      have hD : va_D A [(fb, .inr (3, fg_ kd (nI np) (nI k) qx qy qs pr sc qt qh mn qm qd)), (qx, .inl (cI, cx, .inl xs)), (qy, .inl (cI, cx, .inl ys)), (oa, .inr (4, ov_ k1 k2 ba ca qm0 fr)), (ra0, .inr (5, sr_ fa fb oa))] := hD
      have hP9 := hP.sub (ws' := [(ra0, .inr (5, sr_ fa fb oa)), (fb, .inr (3, fg_ kd (nI np) (nI k) qx qy qs pr sc qt qh mn qm qd)), (qx, .inl (cI, cx, .inl xs)), (qy, .inl (cI, cx, .inl ys)), (oa, .inr (4, ov_ k1 k2 ba ca qm0 fr))]) [4, 0, 1, 2, 3] rfl
      have hD9 := hD.sub (ws' := [(ra0, .inr (5, sr_ fa fb oa)), (fb, .inr (3, fg_ kd (nI np) (nI k) qx qy qs pr sc qt qh mn qm qd)), (qx, .inl (cI, cx, .inl xs)), (qy, .inl (cI, cx, .inl ys)), (oa, .inr (4, ov_ k1 k2 ba ca qm0 fr))]) [4, 0, 1, 2, 3] (by decide) rfl
      exact vx_out (fun x hx9 => (hnx x hx9).elim) hlocks hce hcv hcl (fun t ht hvm => ⟨(), trivial, ⟨Or.inl hE, by rw [ht]; exact hP9, va_K.moved hvm hK, hD9⟩, hS.F ht⟩) hS.2.2 (by show 0 + 1 + 1 ≤ 4; omega) (by show 0 + 6 + 6 ≤ 12 + 4 * cx; omega)
    · obtain ⟨hP1, hK1, hD1⟩ := hB
      rw [ht] at hP1
      obtain ⟨hP, hD⟩ := va_join (wr := [(fb, .inr (3, fg_ kd (nI np) (nI k) qx qy qs pr sc qt qh mn qm qd)), (qx, .inl (cI, cx, .inl xs)), (qy, .inl (cI, cx, .inl ys)), (oa, .inr (4, ov_ k1 k2 ba ca qm0 fr)), (ra0, .inr (5, sr_ fa fb oa))]) (w1 := []) hP hD [] [0, 1, 2, 3, 4] rfl rfl (by decide) (by decide) hk1 hFc hP1 hD1
      clear hPc hDc hFc hP1 hD1 hK1 hk1 hz1 hvm ht
      generalize H1 = H at hP hS ⊢
      have hP : va_P g vwCl [(fb, .inr (3, fg_ kd (nI np) (nI k) qx qy qs pr sc qt qh mn qm qd)), (qx, .inl (cI, cx, .inl xs)), (qy, .inl (cI, cx, .inl ys)), (oa, .inr (4, ov_ k1 k2 ba ca qm0 fr)), (ra0, .inr (5, sr_ fa fb oa))] H := hP
      have hD : va_D A [(fb, .inr (3, fg_ kd (nI np) (nI k) qx qy qs pr sc qt qh mn qm qd)), (qx, .inl (cI, cx, .inl xs)), (qy, .inl (cI, cx, .inl ys)), (oa, .inr (4, ov_ k1 k2 ba ca qm0 fr)), (ra0, .inr (5, sr_ fa fb oa))] := hD
      refine lv_aload hx hb dX5_point_12 (lv_at hl 0 rfl) ?_
      refine va_get (D := g) (ci := 3) (v := .int (nI np)) (C := RX3) (T := TX3) (N := 13) hx hb hts hiX3 hown hK hP 0 rfl rfl 1 (by decide) (hts (.fieldLink RX5 50 "ShapeRelator$Figure" "partCount" "I") (List.mem_of_getElem? (i := 3) rfl)) (fun _ h9 => h9) rfl dX5_point_14 ?_
      refine lv_if_ne (tgt := 30) hx hb dX5_point_17 (by decide) (fun c1 => ?_) (fun c1 => ?_)
      · have e1 : ¬ np = 0 := fun h => c1 (by rw [h]; rfl)
        refine lv_aload hx hb dX5_point_30 (lv_at hl 0 rfl) ?_
        refine va_get (D := g) (ci := 3) (v := .int (nI k)) (C := RX3) (T := TX3) (N := 13) hx hb hts hiX3 hown hK hP 0 rfl rfl 2 (by decide) (hts (.fieldLink RX5 39 "ShapeRelator$Figure" "pointCount" "I") (List.mem_of_getElem? (i := 4) rfl)) (fun _ h9 => h9) rfl dX5_point_32 ?_
        refine lv_sipush (v := 2048) hx hb dX5_point_35 (by decide) ?_
        refine lv_icmp_lt (tgt := 51) hx hb dX5_point_38 (by decide) (fun c2 => ?_) (fun c2 => ?_)
        · have e2 : k < 2048 := (nI_ltI (by omega) (by decide)).mp c2
          refine lv_aload hx hb dX5_point_51 (lv_at hl 0 rfl) ?_
          refine lv_iload_n hx hb dX5_point_53 rfl (lv_at hl 3 rfl) ?_
          refine lv_iload_n hx hb dX5_point_54 rfl (lv_at hl 4 rfl) ?_
          have hPc := hP.sub (ws' := [(fb, .inr (3, fg_ kd (nI np) (nI k) qx qy qs pr sc qt qh mn qm qd)), (qx, .inl (cI, cx, .inl xs)), (qy, .inl (cI, cx, .inl ys))]) [0, 1, 2] rfl
          have hDc := hD.sub (ws' := [(fb, .inr (3, fg_ kd (nI np) (nI k) qx qy qs pr sc qt qh mn qm qd)), (qx, .inl (cI, cx, .inl xs)), (qy, .inl (cI, cx, .inl ys))]) [0, 1, 2] (by decide) rfl
          have hFc := va_free (wc := [(fb, .inr (3, fg_ kd (nI np) (nI k) qx qy qs pr sc qt qh mn qm qd)), (qx, .inl (cI, cx, .inl xs)), (qy, .inl (cI, cx, .inl ys))]) hD hS hA [0, 1, 2] rfl
          refine va_callv (va_runV (As := [.int x1, .int y1]) (rest := []) ⟨hx, hb, hml, hown, hts⟩ (kX3_addPoint l g cI cJ cZ H.size fb kd (nI np) qx qy qs pr sc qt qh mn qm qd cx xs ys k x1 y1 g1 g2 (by omega)) (cwV 2 hts gX5_point_X3_addPoint rfl rfl rfl (by decide +kernel) ⟨Nat.le_of_ble_eq_true rfl, Nat.le_of_ble_eq_true rfl⟩) (pv_ hK hPc hDc (va_recv hK hPc (ci := 3) (q0 := 0) rfl rfl)) rfl rfl hl.1 rfl (lv_room (Nat.le_of_ble_eq_true rfl)) dX5_point_55 ⟨by show 0 + 1 + 1 + 2 ≤ 4; omega, by show 0 + 6 + 6 + (4 * cx) ≤ 12 + 4 * cx; omega⟩) hS (fun q _ h => hFc q h) hFc (fun u t H1 locs ht hvm hw3 hB hz1 hk1 hS => ?_)
          obtain ⟨xs3, ys3⟩ := u
          obtain ⟨qx3, qy3, hP1, hK1, hD1⟩ := hB
          rw [ht] at hP1
          dsimp only at hw3
          obtain ⟨hP, hD⟩ := va_join (wr := [(oa, .inr (4, ov_ k1 k2 ba ca qm0 fr)), (ra0, .inr (5, sr_ fa fb oa))]) (w1 := [(fb, .inr (3, fg_ kd (nI np) (nI (k + 1)) qx3 qy3 qs 0 sc qt qh mn qm qd)), (qx3, .inl (cI, gcap_ k cx, .inl xs3)), (qy3, .inl (cI, gcap_ k cx, .inl ys3))]) hP hD [0, 1, 2] [3, 4] rfl rfl (by decide) (by decide) hk1 hFc hP1 hD1
          clear hPc hDc hFc hP1 hD1 hK1 hk1 hz1 hvm ht
          generalize H1 = H at hP hS ⊢
          have hP : va_P g vwCl [(oa, .inr (4, ov_ k1 k2 ba ca qm0 fr)), (ra0, .inr (5, sr_ fa fb oa)), (fb, .inr (3, fg_ kd (nI np) (nI (k + 1)) qx3 qy3 qs 0 sc qt qh mn qm qd)), (qx3, .inl (cI, gcap_ k cx, .inl xs3)), (qy3, .inl (cI, gcap_ k cx, .inl ys3))] H := hP
          have hD : va_D A [(oa, .inr (4, ov_ k1 k2 ba ca qm0 fr)), (ra0, .inr (5, sr_ fa fb oa)), (fb, .inr (3, fg_ kd (nI np) (nI (k + 1)) qx3 qy3 qs 0 sc qt qh mn qm qd)), (qx3, .inl (cI, gcap_ k cx, .inl xs3)), (qy3, .inl (cI, gcap_ k cx, .inl ys3))] := hD
          refine lv_aload_n hx hb dX5_point_58 rfl (lv_at hl 1 rfl) ?_
          refine va_get (D := g) (ci := 5) (v := .ref oa) (C := RX5) (T := TX5) (N := 3) hx hb hts hiX5 hown hK hP 1 rfl rfl 2 (by decide) (hts (.fieldLink RX5 24 "ShapeRelator" "overlay" "LShapeRelator$Overlay;") (List.mem_of_getElem? (i := 5) rfl)) (fun _ h9 => h9) rfl dX5_point_59 ?_
          have hPc := hP.sub (ws' := [(oa, .inr (4, ov_ k1 k2 ba ca qm0 fr))]) [0] rfl
          have hDc := hD.sub (ws' := [(oa, .inr (4, ov_ k1 k2 ba ca qm0 fr))]) [0] (by decide) rfl
          have hFc := va_free (wc := [(oa, .inr (4, ov_ k1 k2 ba ca qm0 fr))]) hD hS hA [0] rfl
          refine va_callv (va_runV (As := []) (rest := []) ⟨hx, hb, hml, hown, hts⟩ (kX4_forget l g cI cJ cZ H.size oa k1 k2 ba ca qm0 fr) (cwV 0 hts gX5_point_X4_forget rfl rfl rfl (by decide +kernel) ⟨Nat.le_of_ble_eq_true rfl, Nat.le_of_ble_eq_true rfl⟩) (pv_ hK hPc hDc (va_recv hK hPc (ci := 4) (q0 := 0) rfl rfl)) rfl rfl hl.1 rfl (lv_room (Nat.le_of_ble_eq_true rfl)) dX5_point_62 ⟨by show 0 + 1 + 1 + 2 + 0 ≤ 4; omega, by show 0 + 6 + 6 + (4 * cx) + 0 ≤ 12 + 4 * cx; omega⟩) hS (fun q _ h => hFc q h) hFc (fun u t H1 locs ht hvm hw hB hz1 hk1 hS => ?_)
          obtain ⟨hP1, hK1, hD1⟩ := hB
          rw [ht] at hP1
          obtain ⟨hP, hD⟩ := va_join (wr := [(ra0, .inr (5, sr_ fa fb oa)), (fb, .inr (3, fg_ kd (nI np) (nI (k + 1)) qx3 qy3 qs 0 sc qt qh mn qm qd)), (qx3, .inl (cI, gcap_ k cx, .inl xs3)), (qy3, .inl (cI, gcap_ k cx, .inl ys3))]) (w1 := [(oa, .inr (4, ov_ k1 k2 ba ca qm0 0))]) hP hD [0] [1, 2, 3, 4] rfl rfl (by decide) (by decide) hk1 hFc hP1 hD1
          clear hPc hDc hFc hP1 hD1 hK1 hk1 hz1 hvm ht
          generalize H1 = H at hP hS ⊢
          have hP : va_P g vwCl [(ra0, .inr (5, sr_ fa fb oa)), (fb, .inr (3, fg_ kd (nI np) (nI (k + 1)) qx3 qy3 qs 0 sc qt qh mn qm qd)), (qx3, .inl (cI, gcap_ k cx, .inl xs3)), (qy3, .inl (cI, gcap_ k cx, .inl ys3)), (oa, .inr (4, ov_ k1 k2 ba ca qm0 0))] H := hP
          have hD : va_D A [(ra0, .inr (5, sr_ fa fb oa)), (fb, .inr (3, fg_ kd (nI np) (nI (k + 1)) qx3 qy3 qs 0 sc qt qh mn qm qd)), (qx3, .inl (cI, gcap_ k cx, .inl xs3)), (qy3, .inl (cI, gcap_ k cx, .inl ys3)), (oa, .inr (4, ov_ k1 k2 ba ca qm0 0))] := hD
          refine lv_aload hx hb dX5_point_65 (lv_at hl 0 rfl) ?_
          refine va_get (D := g) (ci := 3) (v := .int (nI (k + 1))) (C := RX3) (T := TX3) (N := 13) hx hb hts hiX3 hown hK hP 1 rfl rfl 2 (by decide) (hts (.fieldLink RX5 39 "ShapeRelator$Figure" "pointCount" "I") (List.mem_of_getElem? (i := 4) rfl)) (fun _ h9 => h9) rfl dX5_point_67 ?_
          refine W.widen (k := 4) (n := (12 + 4 * cx)) (by omega) (by omega) ?_
          have hP9 := hP.sub (ws' := [(ra0, .inr (5, sr_ fa fb oa)), (fb, .inr (3, fg_ kd (nI np) (nI (k + 1)) qx3 qy3 qs 0 sc qt qh mn qm qd)), (qx3, .inl (cI, gcap_ k cx, .inl xs3)), (qy3, .inl (cI, gcap_ k cx, .inl ys3)), (oa, .inr (4, ov_ k1 k2 ba ca qm0 0))]) [0, 1, 2, 3, 4] rfl
          have hD9 := hD.sub (ws' := [(ra0, .inr (5, sr_ fa fb oa)), (fb, .inr (3, fg_ kd (nI np) (nI (k + 1)) qx3 qy3 qs 0 sc qt qh mn qm qd)), (qx3, .inl (cI, gcap_ k cx, .inl xs3)), (qy3, .inl (cI, gcap_ k cx, .inl ys3)), (oa, .inr (4, ov_ k1 k2 ba ca qm0 0))]) [0, 1, 2, 3, 4] (by decide) rfl
          refine vx_ret ?_
          exact W.iret (v := (nI (k + 1))) hx hb hr (fun t ht hW => ⟨⟨nI (k + 1), (xs3, ys3), rfl, ⟨⟨hwr.1, hwr.2, e1, e2⟩, rfl, hw3⟩, qx3, qy3, by rw [ht]; exact hP9, va_K.moved hW.alike hK, hD9⟩, hS.F ht⟩) hS.2.2 dX5_point_70
        · have hP9 := hP.sub (ws' := [(ra0, .inr (5, sr_ fa fb oa)), (fb, .inr (3, fg_ kd (nI np) (nI k) qx qy qs pr sc qt qh mn qm qd)), (qx, .inl (cI, cx, .inl xs)), (qy, .inl (cI, cx, .inl ys)), (oa, .inr (4, ov_ k1 k2 ba ca qm0 fr))]) [4, 0, 1, 2, 3] rfl
          have hD9 := hD.sub (ws' := [(ra0, .inr (5, sr_ fa fb oa)), (fb, .inr (3, fg_ kd (nI np) (nI k) qx qy qs pr sc qt qh mn qm qd)), (qx, .inl (cI, cx, .inl xs)), (qy, .inl (cI, cx, .inl ys)), (oa, .inr (4, ov_ k1 k2 ba ca qm0 fr))]) [4, 0, 1, 2, 3] (by decide) rfl
          obtain ⟨sa, hsa⟩ := hev.1.2.1 (67, "too many points") (List.mem_of_getElem? (i := 5) rfl)
          exact vx_throwS (A := A) (names := nm2_) (cls := "java/lang/IllegalStateException") hx hb hlt hown fi3_ fin_ (hts (.classLink RX5 53 "java/lang/IllegalStateException") (List.mem_of_getElem? (i := 1) rfl)) (hts (.initialized "java/lang/IllegalStateException") (List.mem_of_getElem? (i := 2) rfl)) hsa (vx_hat (B := evB_) (fun w hw => hts w (List.mem_cons_of_mem _ (List.mem_append_left _ (List.mem_append_left _ (List.mem_append_right _ hw))))) nb3_ (evB_u hev.1)) go3_ hev.2.1 hev.2.2 hS (hl.1.trans hml.symm) dX5_point_41 dX5_point_44 dX5_point_45 dX5_point_47 dX5_point_50 (fun x hx9 => (hnx x hx9).elim) (Nat.le_of_ble_eq_true rfl) (Nat.le_of_ble_eq_true rfl) (by show 0 + 1 + 1 + 1 ≤ 4; omega) (by show 0 + 6 + 6 + 6 ≤ 12 + 4 * cx; omega) hlocks (fun t hvm hz hq => ⟨(), trivial, ⟨Or.inr ⟨rfl, hwr.1, hwr.2, Or.inr (fun h => c2 ((nI_ltI (by omega) (by decide)).mpr h))⟩, vp_k hP9 hq, va_K.moved hvm hK, hD9⟩, vf_k hS hz hq⟩) hS.2.2 (by show 0 + 1 + 1 + 1 ≤ 4; omega) (by show 0 + 6 + 6 + 6 ≤ 12 + 4 * cx; omega)
      · have hP9 := hP.sub (ws' := [(ra0, .inr (5, sr_ fa fb oa)), (fb, .inr (3, fg_ kd (nI np) (nI k) qx qy qs pr sc qt qh mn qm qd)), (qx, .inl (cI, cx, .inl xs)), (qy, .inl (cI, cx, .inl ys)), (oa, .inr (4, ov_ k1 k2 ba ca qm0 fr))]) [4, 0, 1, 2, 3] rfl
        have hD9 := hD.sub (ws' := [(ra0, .inr (5, sr_ fa fb oa)), (fb, .inr (3, fg_ kd (nI np) (nI k) qx qy qs pr sc qt qh mn qm qd)), (qx, .inl (cI, cx, .inl xs)), (qy, .inl (cI, cx, .inl ys)), (oa, .inr (4, ov_ k1 k2 ba ca qm0 fr))]) [4, 0, 1, 2, 3] (by decide) rfl
        obtain ⟨sa, hsa⟩ := hev.1.2.1 (65, "no part has begun") (List.mem_of_getElem? (i := 4) rfl)
        exact vx_throwS (A := A) (names := nm2_) (cls := "java/lang/IllegalStateException") hx hb hlt hown fi3_ fin_ (hts (.classLink RX5 53 "java/lang/IllegalStateException") (List.mem_of_getElem? (i := 1) rfl)) (hts (.initialized "java/lang/IllegalStateException") (List.mem_of_getElem? (i := 2) rfl)) hsa (vx_hat (B := evB_) (fun w hw => hts w (List.mem_cons_of_mem _ (List.mem_append_left _ (List.mem_append_left _ (List.mem_append_right _ hw))))) nb3_ (evB_u hev.1)) go3_ hev.2.1 hev.2.2 hS (hl.1.trans hml.symm) dX5_point_20 dX5_point_23 dX5_point_24 dX5_point_26 dX5_point_29 (fun x hx9 => (hnx x hx9).elim) (Nat.le_of_ble_eq_true rfl) (Nat.le_of_ble_eq_true rfl) (by show 0 + 1 + 1 + 1 ≤ 4; omega) (by show 0 + 6 + 6 + 6 ≤ 12 + 4 * cx; omega) hlocks (fun t hvm hz hq => ⟨(), trivial, ⟨Or.inr ⟨rfl, hwr.1, hwr.2, Or.inl ((nI_eq (b := 0) (by omega) (by decide)).mp c1)⟩, vp_k hP9 hq, va_K.moved hvm hK, hD9⟩, vf_k hS hz hq⟩) hS.2.2 (by show 0 + 1 + 1 + 1 ≤ 4; omega) (by show 0 + 6 + 6 + 6 ≤ 12 + 4 * cx; omega)

theorem ikX5_count1_X3 : ∀ w ∈ wsX30, w ∈ wsX5_count := by decide +kernel
set_option maxHeartbeats 1000000 in
set_option maxRecDepth 100000 in
theorem kX5_count1 (l : Launch) (g : va_G) (cI cJ cZ : ClassId) (sz : Nat) (hlt : l.stackTraces = false) (ra0 : Nat) (fa : Nat) (fb : Nat) (oa : Nat) (kd : Int32) (pn : Int32) (pt : Int32) (qx : Nat) (qy : Nat) (qs : Nat) (pr : Int32) (sc : Int32) (qt : Nat) (qh : Nat) (mn : Int32) (qm : Nat) (qd : Nat) (wv : Int32)  : vx_Met l yX5_count wsX5_count ({ frames := 7, cells := 2, slots := 12, locals := 103 }) (pce_ g cI cJ cZ [.ref ra0, .int 1, .int wv] [(ra0, .inr (5, sr_ fa fb oa)), (fb, .inr (3, fg_ kd pn pt qx qy qs pr sc qt qh mn qm qd))] sz) (va_Qi (fun (r : Int32) (_ : Unit) => ¬ wi_ wv 0 2 = 0 ∧ r = if wv = 0 then kd else if wv = 1 then pn else pt) (fun (_ : Unit) t => wd_ g cI cJ cZ (va_A [(ra0, .inr (5, sr_ fa fb oa)), (fb, .inr (3, fg_ kd pn pt qx qy qs pr sc qt qh mn qm qd))] sz) [(ra0, .inr (5, sr_ fa fb oa)), (fb, .inr (3, fg_ kd pn pt qx qy qs pr sc qt qh mn qm qd))] t) (va_A [(ra0, .inr (5, sr_ fa fb oa)), (fb, .inr (3, fg_ kd pn pt qx qy qs pr sc qt qh mn qm qd))] sz)) (vx_X (fun _ : Unit => True) (fun E _ t => (E = "java/lang/IndexOutOfBoundsException" ∧ wi_ wv 0 2 = 0) ∧ wd_ g cI cJ cZ (va_A [(ra0, .inr (5, sr_ fa fb oa)), (fb, .inr (3, fg_ kd pn pt qx qy qs pr sc qt qh mn qm qd))] sz) [(ra0, .inr (5, sr_ fa fb oa)), (fb, .inr (3, fg_ kd pn pt qx qy qs pr sc qt qh mn qm qd))] t) (va_A [(ra0, .inr (5, sr_ fa fb oa)), (fb, .inr (3, fg_ kd pn pt qx qy qs pr sc qt qh mn qm qd))] sz)) (2) (12) (va_A [(ra0, .inr (5, sr_ fa fb oa)), (fb, .inr (3, fg_ kd pn pt qx qy qs pr sc qt qh mn qm qd))] sz) := by
  refine vx_ofW (cc := cX5_count) (maxL := 4) (ret := (some .int)) (by decide) rfl ?_
  intro p e s m args below meth c s₁ B hml hnx hv
  obtain ⟨rfl, ⟨hsz, hP, hK, hD0⟩, hev⟩ := hv
  have hx := B.exec
  have hb := B.bytes
  have hr := B.returns
  have hts := atoms_spec (ws := wsX5_count) B.pre
  have hown : s.vm.findClass RX5 = some m.cls := findClass_of_methodNamed B.named
  have hlocks := B.notSynchronized
  subst hsz
  have hD := hD0.self (sz := s.heap.size)
  generalize hAe : va_A [(ra0, .inr (5, sr_ fa fb oa)), (fb, .inr (3, fg_ kd pn pt qx qy qs pr sc qt qh mn qm qd))] s.heap.size = A at hD hev ⊢
  have hA : ∀ q : Nat, s.heap.size ≤ q → A q := fun q h => by rw [← hAe]; exact Or.inr h
  have hS : va_S A s.heap s.heap [] := va_S.rf
  have hP : va_P g vwCl [(ra0, .inr (5, sr_ fa fb oa)), (fb, .inr (3, fg_ kd pn pt qx qy qs pr sc qt qh mn qm qd))] s.heap := hP
  have hl := lv_entry ([.ref ra0, .int 1, .int wv]) (n := 4) (Nat.le_of_ble_eq_true rfl)
  rw [lg_entry_eq]
  generalize (lg_sl ([.ref ra0, .int 1, .int wv]) ++ List.replicate (4 - (lg_sl ([.ref ra0, .int 1, .int wv])).length) Slot.unset).toArray = ls at hl ⊢
  have hl : lv_has ls 4 [(0, .ref ra0), (1, .int 1), (2, .int wv)] := hl
  have hH0 : s.heap = s.heap := rfl
  have hiX3 := ikX5_count1_X3
  refine lv_aload_n hx hb dX5_count_0 rfl (lv_at hl 0 rfl) ?_
  refine lv_iload_n hx hb dX5_count_1 rfl (lv_at hl 1 rfl) ?_
  have hPc := hP.sub (ws' := [(ra0, .inr (5, sr_ fa fb oa))]) [0] rfl
  have hDc := hD.sub (ws' := [(ra0, .inr (5, sr_ fa fb oa))]) [0] (by decide) rfl
  have hFc := va_free (wc := [(ra0, .inr (5, sr_ fa fb oa))]) hD hS hA [0] rfl
  refine vx_callr (vx_runV (As := [.int 1]) (rest := []) ⟨hx, hb, hml, hown, hts⟩ (kX5_figureOf l g cI cJ cZ s.heap.size hlt ra0 fa fb oa 1 fb (fun h => absurd h (by decide)) (fun _ => rfl)) (cwV 1 hts gX5_count_X5_figureOf rfl rfl rfl (by decide +kernel) ⟨Nat.le_of_ble_eq_true rfl, Nat.le_of_ble_eq_true rfl⟩) (pve_ hev hS hFc hK hPc hDc (va_recv hK hPc (ci := 5) (q0 := 0) rfl rfl)) rfl rfl hl.1 rfl (lv_room (Nat.le_of_ble_eq_true rfl)) dX5_count_2 ⟨by show 0 + 1 ≤ 2; omega, by show 0 + 6 ≤ 12; omega⟩) hS (fun q _ h => hFc q h) hFc (fun q _ h => hFc q h) (fun E ce q9 u t H1 locs ht hvm _ hBX hz1 hk1 hS hce hcv hcl => ?_) (fun u rg t H1 locs ht hvm hw hB hz1 hk1 hS => ?_)
  · obtain ⟨hE, hP1, hK1, hD1⟩ := hBX
    rw [ht] at hP1
    obtain ⟨hP, hD⟩ := va_join (wr := [(fb, .inr (3, fg_ kd pn pt qx qy qs pr sc qt qh mn qm qd))]) (w1 := [(ra0, .inr (5, sr_ fa fb oa))]) hP hD [0] [1] rfl rfl (by decide) (by decide) hk1 hFc hP1 hD1
    clear hPc hDc hFc hP1 hD1 hK1 hk1 hz1 hvm ht
    generalize H1 = H at hP hS hce ⊢
    have hP : va_P g vwCl [(fb, .inr (3, fg_ kd pn pt qx qy qs pr sc qt qh mn qm qd)), (ra0, .inr (5, sr_ fa fb oa))] H := hP
    have hD : va_D A [(fb, .inr (3, fg_ kd pn pt qx qy qs pr sc qt qh mn qm qd)), (ra0, .inr (5, sr_ fa fb oa))] := hD
    exact absurd rfl hE.2.2
  · obtain ⟨hra, hP1, hK1, hD1⟩ := hB
    rw [ht] at hP1
    obtain ⟨hP, hD⟩ := va_join (wr := [(fb, .inr (3, fg_ kd pn pt qx qy qs pr sc qt qh mn qm qd))]) (w1 := [(ra0, .inr (5, sr_ fa fb oa))]) hP hD [0] [1] rfl rfl (by decide) (by decide) hk1 hFc hP1 hD1
    clear hPc hDc hFc hP1 hD1 hK1 hk1 hz1 hvm ht
    generalize H1 = H at hP hS ⊢
    have hP : va_P g vwCl [(fb, .inr (3, fg_ kd pn pt qx qy qs pr sc qt qh mn qm qd)), (ra0, .inr (5, sr_ fa fb oa))] H := hP
    have hD : va_D A [(fb, .inr (3, fg_ kd pn pt qx qy qs pr sc qt qh mn qm qd)), (ra0, .inr (5, sr_ fa fb oa))] := hD
    rw [hra]
    refine lv_astore_n (lv' := [(3, .ref fb), (0, .ref ra0), (1, .int 1), (2, .int wv)]) hx hb dX5_count_5 rfl hl (by decide) rfl (fun ls hl => ?_)
    refine lv_iload_n hx hb dX5_count_6 rfl (lv_at hl 3 rfl) ?_
    rcases w2_c (v := wv) with hc | hc
    · rcases hc with rfl | rfl | rfl
      · refine lv_tableIn (off := 25) (tgt := 32) hx hb dX5_count_7 (by decide) (by decide) rfl (by decide) ?_
        refine lv_aload_n hx hb dX5_count_32 rfl (lv_at hl 0 rfl) ?_
        refine va_get (D := g) (ci := 3) (v := .int kd) (C := RX3) (T := TX3) (N := 13) hx hb hts hiX3 hown hK hP 0 rfl rfl 0 (by decide) (hts (.fieldLink RX5 127 "ShapeRelator$Figure" "kind" "I") (List.mem_of_getElem? (i := 3) rfl)) (fun _ h9 => h9) rfl dX5_count_33 ?_
        refine W.widen (k := 2) (n := 12) (by omega) (by omega) ?_
        have hP9 := hP.sub (ws' := [(ra0, .inr (5, sr_ fa fb oa)), (fb, .inr (3, fg_ kd pn pt qx qy qs pr sc qt qh mn qm qd))]) [1, 0] rfl
        have hD9 := hD.sub (ws' := [(ra0, .inr (5, sr_ fa fb oa)), (fb, .inr (3, fg_ kd pn pt qx qy qs pr sc qt qh mn qm qd))]) [1, 0] (by decide) rfl
        refine vx_ret ?_
        exact W.iret (v := kd) hx hb hr (fun t ht hW => ⟨⟨kd, (), rfl, ⟨by decide, rfl⟩, by rw [ht]; exact hP9, va_K.moved hW.alike hK, hD9⟩, hS.F ht⟩) hS.2.2 dX5_count_36
      · refine lv_tableIn (off := 30) (tgt := 37) hx hb dX5_count_7 (by decide) (by decide) rfl (by decide) ?_
        refine lv_aload_n hx hb dX5_count_37 rfl (lv_at hl 0 rfl) ?_
        refine va_get (D := g) (ci := 3) (v := .int pn) (C := RX3) (T := TX3) (N := 13) hx hb hts hiX3 hown hK hP 0 rfl rfl 1 (by decide) (hts (.fieldLink RX5 50 "ShapeRelator$Figure" "partCount" "I") (List.mem_of_getElem? (i := 4) rfl)) (fun _ h9 => h9) rfl dX5_count_38 ?_
        refine W.widen (k := 2) (n := 12) (by omega) (by omega) ?_
        have hP9 := hP.sub (ws' := [(ra0, .inr (5, sr_ fa fb oa)), (fb, .inr (3, fg_ kd pn pt qx qy qs pr sc qt qh mn qm qd))]) [1, 0] rfl
        have hD9 := hD.sub (ws' := [(ra0, .inr (5, sr_ fa fb oa)), (fb, .inr (3, fg_ kd pn pt qx qy qs pr sc qt qh mn qm qd))]) [1, 0] (by decide) rfl
        refine vx_ret ?_
        exact W.iret (v := pn) hx hb hr (fun t ht hW => ⟨⟨pn, (), rfl, ⟨by decide, rfl⟩, by rw [ht]; exact hP9, va_K.moved hW.alike hK, hD9⟩, hS.F ht⟩) hS.2.2 dX5_count_41
      · refine lv_tableIn (off := 35) (tgt := 42) hx hb dX5_count_7 (by decide) (by decide) rfl (by decide) ?_
        refine lv_aload_n hx hb dX5_count_42 rfl (lv_at hl 0 rfl) ?_
        refine va_get (D := g) (ci := 3) (v := .int pt) (C := RX3) (T := TX3) (N := 13) hx hb hts hiX3 hown hK hP 0 rfl rfl 2 (by decide) (hts (.fieldLink RX5 39 "ShapeRelator$Figure" "pointCount" "I") (List.mem_of_getElem? (i := 5) rfl)) (fun _ h9 => h9) rfl dX5_count_43 ?_
        refine W.widen (k := 2) (n := 12) (by omega) (by omega) ?_
        have hP9 := hP.sub (ws' := [(ra0, .inr (5, sr_ fa fb oa)), (fb, .inr (3, fg_ kd pn pt qx qy qs pr sc qt qh mn qm qd))]) [1, 0] rfl
        have hD9 := hD.sub (ws' := [(ra0, .inr (5, sr_ fa fb oa)), (fb, .inr (3, fg_ kd pn pt qx qy qs pr sc qt qh mn qm qd))]) [1, 0] (by decide) rfl
        refine vx_ret ?_
        exact W.iret (v := pt) hx hb hr (fun t ht hW => ⟨⟨pt, (), rfl, ⟨by decide, rfl⟩, by rw [ht]; exact hP9, va_K.moved hW.alike hK, hD9⟩, hS.F ht⟩) hS.2.2 dX5_count_46
    · refine lv_tableOut (tgt := 47) hx hb dX5_count_7 (w2_o hc) (by decide) ?_
      have hP9 := hP.sub (ws' := [(ra0, .inr (5, sr_ fa fb oa)), (fb, .inr (3, fg_ kd pn pt qx qy qs pr sc qt qh mn qm qd))]) [1, 0] rfl
      have hD9 := hD.sub (ws' := [(ra0, .inr (5, sr_ fa fb oa)), (fb, .inr (3, fg_ kd pn pt qx qy qs pr sc qt qh mn qm qd))]) [1, 0] (by decide) rfl
      obtain ⟨sa, hsa⟩ := hev.1.2.1 (130, "nothing of this number is counted") (List.mem_of_getElem? (i := 8) rfl)
      exact vx_throwS (A := A) (names := nm2_) (cls := "java/lang/IndexOutOfBoundsException") hx hb hlt hown fi1_ fin_ (hts (.classLink RX5 85 "java/lang/IndexOutOfBoundsException") (List.mem_of_getElem? (i := 1) rfl)) (hts (.initialized "java/lang/IndexOutOfBoundsException") (List.mem_of_getElem? (i := 2) rfl)) hsa (vx_hat (B := evB_) (fun w hw => hts w (List.mem_cons_of_mem _ (List.mem_append_right _ hw))) nb1_ (evB_u hev.1)) go1_ hev.2.1 hev.2.2 hS (hl.1.trans hml.symm) dX5_count_47 dX5_count_50 dX5_count_51 dX5_count_53 dX5_count_56 (fun x hx9 => (hnx x hx9).elim) (Nat.le_of_ble_eq_true rfl) (Nat.le_of_ble_eq_true rfl) (by show 0 + 1 + 1 ≤ 2; omega) (by show 0 + 6 + 6 ≤ 12; omega) hlocks (fun t hvm hz hq => ⟨(), trivial, ⟨⟨rfl, hc⟩, vp_k hP9 hq, va_K.moved hvm hK, hD9⟩, vf_k hS hz hq⟩) hS.2.2 (by show 0 + 1 + 1 ≤ 2; omega) (by show 0 + 6 + 6 ≤ 12; omega)

set_option maxHeartbeats 1000000 in
set_option maxRecDepth 100000 in
theorem kX5_shapeX (l : Launch) (g : va_G) (cI cJ cZ : ClassId) (sz : Nat) (hlt : l.stackTraces = false) (ra0 : Nat) (fa : Nat) (fb : Nat) (oa : Nat) (sv : Int32) (kv : Int32) (h0 : ¬ sv = 0) (h1 : ¬ sv = 1) : vx_Met l yX5_shape wsX5_shape ({ frames := 7, cells := 1, slots := 6, locals := 103 }) (pce_ g cI cJ cZ [.ref ra0, .int sv, .int kv] [(ra0, .inr (5, sr_ fa fb oa))] sz) (va_Qi (fun (r : Int32) (_ : Unit) => False) (fun (_ : Unit) t => wd_ g cI cJ cZ (va_A [(ra0, .inr (5, sr_ fa fb oa))] sz) [(ra0, .inr (5, sr_ fa fb oa))] t) (va_A [(ra0, .inr (5, sr_ fa fb oa))] sz)) (vx_X (fun _ : Unit => True) (fun E _ t => (E = "java/lang/IndexOutOfBoundsException") ∧ wd_ g cI cJ cZ (va_A [(ra0, .inr (5, sr_ fa fb oa))] sz) [(ra0, .inr (5, sr_ fa fb oa))] t) (va_A [(ra0, .inr (5, sr_ fa fb oa))] sz)) (1) (6) (va_A [(ra0, .inr (5, sr_ fa fb oa))] sz) := by
  refine vx_ofW (cc := cX5_shape) (maxL := 5) (ret := (some .int)) (by decide) rfl ?_
  intro p e s m args below meth c s₁ B hml hnx hv
  obtain ⟨rfl, ⟨hsz, hP, hK, hD0⟩, hev⟩ := hv
  have hx := B.exec
  have hb := B.bytes
  have hr := B.returns
  have hts := atoms_spec (ws := wsX5_shape) B.pre
  have hown : s.vm.findClass RX5 = some m.cls := findClass_of_methodNamed B.named
  have hlocks := B.notSynchronized
  subst hsz
  have hD := hD0.self (sz := s.heap.size)
  generalize hAe : va_A [(ra0, .inr (5, sr_ fa fb oa))] s.heap.size = A at hD hev ⊢
  have hA : ∀ q : Nat, s.heap.size ≤ q → A q := fun q h => by rw [← hAe]; exact Or.inr h
  have hS : va_S A s.heap s.heap [] := va_S.rf
  have hP : va_P g vwCl [(ra0, .inr (5, sr_ fa fb oa))] s.heap := hP
  have hl := lv_entry ([.ref ra0, .int sv, .int kv]) (n := 5) (Nat.le_of_ble_eq_true rfl)
  rw [lg_entry_eq]
  generalize (lg_sl ([.ref ra0, .int sv, .int kv]) ++ List.replicate (5 - (lg_sl ([.ref ra0, .int sv, .int kv])).length) Slot.unset).toArray = ls at hl ⊢
  have hl : lv_has ls 5 [(0, .ref ra0), (1, .int sv), (2, .int kv)] := hl
  have hH0 : s.heap = s.heap := rfl
  refine lv_aload_n hx hb dX5_shape_0 rfl (lv_at hl 0 rfl) ?_
  refine lv_iload_n hx hb dX5_shape_1 rfl (lv_at hl 1 rfl) ?_
  have hPc := hP.sub (ws' := [(ra0, .inr (5, sr_ fa fb oa))]) [0] rfl
  have hDc := hD.sub (ws' := [(ra0, .inr (5, sr_ fa fb oa))]) [0] (by decide) rfl
  have hFc := va_free (wc := [(ra0, .inr (5, sr_ fa fb oa))]) hD hS hA [0] rfl
  refine vx_callr (vx_runV (As := [.int sv]) (rest := []) ⟨hx, hb, hml, hown, hts⟩ (kX5_figureOf l g cI cJ cZ s.heap.size hlt ra0 fa fb oa sv (if sv = 0 then fa else fb) (fun h => absurd h h0) (fun h => absurd h h1)) (cwV 1 hts gX5_shape_X5_figureOf rfl rfl rfl (by decide +kernel) ⟨Nat.le_of_ble_eq_true rfl, Nat.le_of_ble_eq_true rfl⟩) (pve_ hev hS hFc hK hPc hDc (va_recv hK hPc (ci := 5) (q0 := 0) rfl rfl)) rfl rfl hl.1 rfl (lv_room (Nat.le_of_ble_eq_true rfl)) dX5_shape_2 ⟨by show 0 + 1 ≤ 1; omega, by show 0 + 6 ≤ 6; omega⟩) hS (fun q _ h => hFc q h) hFc (fun q _ h => hFc q h) (fun E ce q9 u t H1 locs ht hvm _ hBX hz1 hk1 hS hce hcv hcl => ?_) (fun u rg t H1 locs ht hvm hwf hB hz1 hk1 hS => ?_)
  · obtain ⟨hE, hP1, hK1, hD1⟩ := hBX
    rw [ht] at hP1
    obtain ⟨hP, hD⟩ := va_join (wr := []) (w1 := [(ra0, .inr (5, sr_ fa fb oa))]) hP hD [0] [] rfl rfl (by decide) (by decide) hk1 hFc hP1 hD1
    clear hPc hDc hFc hP1 hD1 hK1 hk1 hz1 hvm ht
    generalize H1 = H at hP hS hce ⊢
    have hP : va_P g vwCl [(ra0, .inr (5, sr_ fa fb oa))] H := hP
    have hD : va_D A [(ra0, .inr (5, sr_ fa fb oa))] := hD
    have hP9 := hP.sub (ws' := [(ra0, .inr (5, sr_ fa fb oa))]) [0] rfl
    have hD9 := hD.sub (ws' := [(ra0, .inr (5, sr_ fa fb oa))]) [0] (by decide) rfl
    exact vx_out (fun x hx9 => (hnx x hx9).elim) hlocks hce hcv hcl (fun t ht hvm => ⟨(), trivial, ⟨hE.1, by rw [ht]; exact hP9, va_K.moved hvm hK, hD9⟩, hS.F ht⟩) hS.2.2 (by show 0 + 1 ≤ 1; omega) (by show 0 + 6 ≤ 6; omega)
  · obtain ⟨hra, hP1, hK1, hD1⟩ := hB
    rw [ht] at hP1
    obtain ⟨hP, hD⟩ := va_join (wr := []) (w1 := [(ra0, .inr (5, sr_ fa fb oa))]) hP hD [0] [] rfl rfl (by decide) (by decide) hk1 hFc hP1 hD1
    clear hPc hDc hFc hP1 hD1 hK1 hk1 hz1 hvm ht
    generalize H1 = H at hP hS ⊢
    have hP : va_P g vwCl [(ra0, .inr (5, sr_ fa fb oa))] H := hP
    have hD : va_D A [(ra0, .inr (5, sr_ fa fb oa))] := hD
    exact absurd hwf (fun q => q.elim h0 h1)

set_option maxHeartbeats 1000000 in
set_option maxRecDepth 100000 in
theorem kX5_partX (l : Launch) (g : va_G) (cI cJ cZ : ClassId) (sz : Nat) (hlt : l.stackTraces = false) (ra0 : Nat) (fa : Nat) (fb : Nat) (oa : Nat) (sv : Int32) (h0 : ¬ sv = 0) (h1 : ¬ sv = 1) : vx_Met l yX5_part wsX5_part ({ frames := 7, cells := 1, slots := 6, locals := 103 }) (pce_ g cI cJ cZ [.ref ra0, .int sv] [(ra0, .inr (5, sr_ fa fb oa))] sz) (va_Qi (fun (r : Int32) (_ : Unit) => False) (fun (_ : Unit) t => wd_ g cI cJ cZ (va_A [(ra0, .inr (5, sr_ fa fb oa))] sz) [(ra0, .inr (5, sr_ fa fb oa))] t) (va_A [(ra0, .inr (5, sr_ fa fb oa))] sz)) (vx_X (fun _ : Unit => True) (fun E _ t => (E = "java/lang/IndexOutOfBoundsException") ∧ wd_ g cI cJ cZ (va_A [(ra0, .inr (5, sr_ fa fb oa))] sz) [(ra0, .inr (5, sr_ fa fb oa))] t) (va_A [(ra0, .inr (5, sr_ fa fb oa))] sz)) (1) (6) (va_A [(ra0, .inr (5, sr_ fa fb oa))] sz) := by
  refine vx_ofW (cc := cX5_part) (maxL := 3) (ret := (some .int)) (by decide) rfl ?_
  intro p e s m args below meth c s₁ B hml hnx hv
  obtain ⟨rfl, ⟨hsz, hP, hK, hD0⟩, hev⟩ := hv
  have hx := B.exec
  have hb := B.bytes
  have hr := B.returns
  have hts := atoms_spec (ws := wsX5_part) B.pre
  have hown : s.vm.findClass RX5 = some m.cls := findClass_of_methodNamed B.named
  have hlocks := B.notSynchronized
  subst hsz
  have hD := hD0.self (sz := s.heap.size)
  generalize hAe : va_A [(ra0, .inr (5, sr_ fa fb oa))] s.heap.size = A at hD hev ⊢
  have hA : ∀ q : Nat, s.heap.size ≤ q → A q := fun q h => by rw [← hAe]; exact Or.inr h
  have hS : va_S A s.heap s.heap [] := va_S.rf
  have hP : va_P g vwCl [(ra0, .inr (5, sr_ fa fb oa))] s.heap := hP
  have hl := lv_entry ([.ref ra0, .int sv]) (n := 3) (Nat.le_of_ble_eq_true rfl)
  rw [lg_entry_eq]
  generalize (lg_sl ([.ref ra0, .int sv]) ++ List.replicate (3 - (lg_sl ([.ref ra0, .int sv])).length) Slot.unset).toArray = ls at hl ⊢
  have hl : lv_has ls 3 [(0, .ref ra0), (1, .int sv)] := hl
  have hH0 : s.heap = s.heap := rfl
  refine lv_aload_n hx hb dX5_part_0 rfl (lv_at hl 0 rfl) ?_
  refine lv_iload_n hx hb dX5_part_1 rfl (lv_at hl 1 rfl) ?_
  have hPc := hP.sub (ws' := [(ra0, .inr (5, sr_ fa fb oa))]) [0] rfl
  have hDc := hD.sub (ws' := [(ra0, .inr (5, sr_ fa fb oa))]) [0] (by decide) rfl
  have hFc := va_free (wc := [(ra0, .inr (5, sr_ fa fb oa))]) hD hS hA [0] rfl
  refine vx_callr (vx_runV (As := [.int sv]) (rest := []) ⟨hx, hb, hml, hown, hts⟩ (kX5_figureOf l g cI cJ cZ s.heap.size hlt ra0 fa fb oa sv (if sv = 0 then fa else fb) (fun h => absurd h h0) (fun h => absurd h h1)) (cwV 1 hts gX5_part_X5_figureOf rfl rfl rfl (by decide +kernel) ⟨Nat.le_of_ble_eq_true rfl, Nat.le_of_ble_eq_true rfl⟩) (pve_ hev hS hFc hK hPc hDc (va_recv hK hPc (ci := 5) (q0 := 0) rfl rfl)) rfl rfl hl.1 rfl (lv_room (Nat.le_of_ble_eq_true rfl)) dX5_part_2 ⟨by show 0 + 1 ≤ 1; omega, by show 0 + 6 ≤ 6; omega⟩) hS (fun q _ h => hFc q h) hFc (fun q _ h => hFc q h) (fun E ce q9 u t H1 locs ht hvm _ hBX hz1 hk1 hS hce hcv hcl => ?_) (fun u rg t H1 locs ht hvm hwf hB hz1 hk1 hS => ?_)
  · obtain ⟨hE, hP1, hK1, hD1⟩ := hBX
    rw [ht] at hP1
    obtain ⟨hP, hD⟩ := va_join (wr := []) (w1 := [(ra0, .inr (5, sr_ fa fb oa))]) hP hD [0] [] rfl rfl (by decide) (by decide) hk1 hFc hP1 hD1
    clear hPc hDc hFc hP1 hD1 hK1 hk1 hz1 hvm ht
    generalize H1 = H at hP hS hce ⊢
    have hP : va_P g vwCl [(ra0, .inr (5, sr_ fa fb oa))] H := hP
    have hD : va_D A [(ra0, .inr (5, sr_ fa fb oa))] := hD
    have hP9 := hP.sub (ws' := [(ra0, .inr (5, sr_ fa fb oa))]) [0] rfl
    have hD9 := hD.sub (ws' := [(ra0, .inr (5, sr_ fa fb oa))]) [0] (by decide) rfl
    exact vx_out (fun x hx9 => (hnx x hx9).elim) hlocks hce hcv hcl (fun t ht hvm => ⟨(), trivial, ⟨hE.1, by rw [ht]; exact hP9, va_K.moved hvm hK, hD9⟩, hS.F ht⟩) hS.2.2 (by show 0 + 1 ≤ 1; omega) (by show 0 + 6 ≤ 6; omega)
  · obtain ⟨hra, hP1, hK1, hD1⟩ := hB
    rw [ht] at hP1
    obtain ⟨hP, hD⟩ := va_join (wr := []) (w1 := [(ra0, .inr (5, sr_ fa fb oa))]) hP hD [0] [] rfl rfl (by decide) (by decide) hk1 hFc hP1 hD1
    clear hPc hDc hFc hP1 hD1 hK1 hk1 hz1 hvm ht
    generalize H1 = H at hP hS ⊢
    have hP : va_P g vwCl [(ra0, .inr (5, sr_ fa fb oa))] H := hP
    have hD : va_D A [(ra0, .inr (5, sr_ fa fb oa))] := hD
    exact absurd hwf (fun q => q.elim h0 h1)

set_option maxHeartbeats 1000000 in
set_option maxRecDepth 100000 in
theorem kX5_pointX (l : Launch) (g : va_G) (cI cJ cZ : ClassId) (sz : Nat) (hlt : l.stackTraces = false) (ra0 : Nat) (fa : Nat) (fb : Nat) (oa : Nat) (sv : Int32) (x1 : Int32) (y1 : Int32) (h0 : ¬ sv = 0) (h1 : ¬ sv = 1) : vx_Met l yX5_point wsX5_point ({ frames := 7, cells := 1, slots := 6, locals := 103 }) (pce_ g cI cJ cZ [.ref ra0, .int sv, .int x1, .int y1] [(ra0, .inr (5, sr_ fa fb oa))] sz) (va_Qi (fun (r : Int32) (_ : Unit) => False) (fun (_ : Unit) t => wd_ g cI cJ cZ (va_A [(ra0, .inr (5, sr_ fa fb oa))] sz) [(ra0, .inr (5, sr_ fa fb oa))] t) (va_A [(ra0, .inr (5, sr_ fa fb oa))] sz)) (vx_X (fun _ : Unit => True) (fun E _ t => (E = "java/lang/IndexOutOfBoundsException") ∧ wd_ g cI cJ cZ (va_A [(ra0, .inr (5, sr_ fa fb oa))] sz) [(ra0, .inr (5, sr_ fa fb oa))] t) (va_A [(ra0, .inr (5, sr_ fa fb oa))] sz)) (1) (6) (va_A [(ra0, .inr (5, sr_ fa fb oa))] sz) := by
  refine vx_ofW (cc := cX5_point) (maxL := 5) (ret := (some .int)) (by decide) rfl ?_
  intro p e s m args below meth c s₁ B hml hnx hv
  obtain ⟨rfl, ⟨hsz, hP, hK, hD0⟩, hev⟩ := hv
  have hx := B.exec
  have hb := B.bytes
  have hr := B.returns
  have hts := atoms_spec (ws := wsX5_point) B.pre
  have hown : s.vm.findClass RX5 = some m.cls := findClass_of_methodNamed B.named
  have hlocks := B.notSynchronized
  subst hsz
  have hD := hD0.self (sz := s.heap.size)
  generalize hAe : va_A [(ra0, .inr (5, sr_ fa fb oa))] s.heap.size = A at hD hev ⊢
  have hA : ∀ q : Nat, s.heap.size ≤ q → A q := fun q h => by rw [← hAe]; exact Or.inr h
  have hS : va_S A s.heap s.heap [] := va_S.rf
  have hP : va_P g vwCl [(ra0, .inr (5, sr_ fa fb oa))] s.heap := hP
  have hl := lv_entry ([.ref ra0, .int sv, .int x1, .int y1]) (n := 5) (Nat.le_of_ble_eq_true rfl)
  rw [lg_entry_eq]
  generalize (lg_sl ([.ref ra0, .int sv, .int x1, .int y1]) ++ List.replicate (5 - (lg_sl ([.ref ra0, .int sv, .int x1, .int y1])).length) Slot.unset).toArray = ls at hl ⊢
  have hl : lv_has ls 5 [(0, .ref ra0), (1, .int sv), (2, .int x1), (3, .int y1)] := hl
  have hH0 : s.heap = s.heap := rfl
  refine lv_aload_n hx hb dX5_point_0 rfl (lv_at hl 0 rfl) ?_
  refine lv_iload_n hx hb dX5_point_1 rfl (lv_at hl 1 rfl) ?_
  have hPc := hP.sub (ws' := [(ra0, .inr (5, sr_ fa fb oa))]) [0] rfl
  have hDc := hD.sub (ws' := [(ra0, .inr (5, sr_ fa fb oa))]) [0] (by decide) rfl
  have hFc := va_free (wc := [(ra0, .inr (5, sr_ fa fb oa))]) hD hS hA [0] rfl
  refine vx_callr (vx_runV (As := [.int sv]) (rest := []) ⟨hx, hb, hml, hown, hts⟩ (kX5_figureOf l g cI cJ cZ s.heap.size hlt ra0 fa fb oa sv (if sv = 0 then fa else fb) (fun h => absurd h h0) (fun h => absurd h h1)) (cwV 1 hts gX5_point_X5_figureOf rfl rfl rfl (by decide +kernel) ⟨Nat.le_of_ble_eq_true rfl, Nat.le_of_ble_eq_true rfl⟩) (pve_ hev hS hFc hK hPc hDc (va_recv hK hPc (ci := 5) (q0 := 0) rfl rfl)) rfl rfl hl.1 rfl (lv_room (Nat.le_of_ble_eq_true rfl)) dX5_point_2 ⟨by show 0 + 1 ≤ 1; omega, by show 0 + 6 ≤ 6; omega⟩) hS (fun q _ h => hFc q h) hFc (fun q _ h => hFc q h) (fun E ce q9 u t H1 locs ht hvm _ hBX hz1 hk1 hS hce hcv hcl => ?_) (fun u rg t H1 locs ht hvm hwf hB hz1 hk1 hS => ?_)
  · obtain ⟨hE, hP1, hK1, hD1⟩ := hBX
    rw [ht] at hP1
    obtain ⟨hP, hD⟩ := va_join (wr := []) (w1 := [(ra0, .inr (5, sr_ fa fb oa))]) hP hD [0] [] rfl rfl (by decide) (by decide) hk1 hFc hP1 hD1
    clear hPc hDc hFc hP1 hD1 hK1 hk1 hz1 hvm ht
    generalize H1 = H at hP hS hce ⊢
    have hP : va_P g vwCl [(ra0, .inr (5, sr_ fa fb oa))] H := hP
    have hD : va_D A [(ra0, .inr (5, sr_ fa fb oa))] := hD
    have hP9 := hP.sub (ws' := [(ra0, .inr (5, sr_ fa fb oa))]) [0] rfl
    have hD9 := hD.sub (ws' := [(ra0, .inr (5, sr_ fa fb oa))]) [0] (by decide) rfl
    exact vx_out (fun x hx9 => (hnx x hx9).elim) hlocks hce hcv hcl (fun t ht hvm => ⟨(), trivial, ⟨hE.1, by rw [ht]; exact hP9, va_K.moved hvm hK, hD9⟩, hS.F ht⟩) hS.2.2 (by show 0 + 1 ≤ 1; omega) (by show 0 + 6 ≤ 6; omega)
  · obtain ⟨hra, hP1, hK1, hD1⟩ := hB
    rw [ht] at hP1
    obtain ⟨hP, hD⟩ := va_join (wr := []) (w1 := [(ra0, .inr (5, sr_ fa fb oa))]) hP hD [0] [] rfl rfl (by decide) (by decide) hk1 hFc hP1 hD1
    clear hPc hDc hFc hP1 hD1 hK1 hk1 hz1 hvm ht
    generalize H1 = H at hP hS ⊢
    have hP : va_P g vwCl [(ra0, .inr (5, sr_ fa fb oa))] H := hP
    have hD : va_D A [(ra0, .inr (5, sr_ fa fb oa))] := hD
    exact absurd hwf (fun q => q.elim h0 h1)

set_option maxHeartbeats 1000000 in
set_option maxRecDepth 100000 in
theorem kX5_countX (l : Launch) (g : va_G) (cI cJ cZ : ClassId) (sz : Nat) (hlt : l.stackTraces = false) (ra0 : Nat) (fa : Nat) (fb : Nat) (oa : Nat) (sv : Int32) (wv : Int32) (h0 : ¬ sv = 0) (h1 : ¬ sv = 1) : vx_Met l yX5_count wsX5_count ({ frames := 7, cells := 1, slots := 6, locals := 103 }) (pce_ g cI cJ cZ [.ref ra0, .int sv, .int wv] [(ra0, .inr (5, sr_ fa fb oa))] sz) (va_Qi (fun (r : Int32) (_ : Unit) => False) (fun (_ : Unit) t => wd_ g cI cJ cZ (va_A [(ra0, .inr (5, sr_ fa fb oa))] sz) [(ra0, .inr (5, sr_ fa fb oa))] t) (va_A [(ra0, .inr (5, sr_ fa fb oa))] sz)) (vx_X (fun _ : Unit => True) (fun E _ t => (E = "java/lang/IndexOutOfBoundsException") ∧ wd_ g cI cJ cZ (va_A [(ra0, .inr (5, sr_ fa fb oa))] sz) [(ra0, .inr (5, sr_ fa fb oa))] t) (va_A [(ra0, .inr (5, sr_ fa fb oa))] sz)) (1) (6) (va_A [(ra0, .inr (5, sr_ fa fb oa))] sz) := by
  refine vx_ofW (cc := cX5_count) (maxL := 4) (ret := (some .int)) (by decide) rfl ?_
  intro p e s m args below meth c s₁ B hml hnx hv
  obtain ⟨rfl, ⟨hsz, hP, hK, hD0⟩, hev⟩ := hv
  have hx := B.exec
  have hb := B.bytes
  have hr := B.returns
  have hts := atoms_spec (ws := wsX5_count) B.pre
  have hown : s.vm.findClass RX5 = some m.cls := findClass_of_methodNamed B.named
  have hlocks := B.notSynchronized
  subst hsz
  have hD := hD0.self (sz := s.heap.size)
  generalize hAe : va_A [(ra0, .inr (5, sr_ fa fb oa))] s.heap.size = A at hD hev ⊢
  have hA : ∀ q : Nat, s.heap.size ≤ q → A q := fun q h => by rw [← hAe]; exact Or.inr h
  have hS : va_S A s.heap s.heap [] := va_S.rf
  have hP : va_P g vwCl [(ra0, .inr (5, sr_ fa fb oa))] s.heap := hP
  have hl := lv_entry ([.ref ra0, .int sv, .int wv]) (n := 4) (Nat.le_of_ble_eq_true rfl)
  rw [lg_entry_eq]
  generalize (lg_sl ([.ref ra0, .int sv, .int wv]) ++ List.replicate (4 - (lg_sl ([.ref ra0, .int sv, .int wv])).length) Slot.unset).toArray = ls at hl ⊢
  have hl : lv_has ls 4 [(0, .ref ra0), (1, .int sv), (2, .int wv)] := hl
  have hH0 : s.heap = s.heap := rfl
  refine lv_aload_n hx hb dX5_count_0 rfl (lv_at hl 0 rfl) ?_
  refine lv_iload_n hx hb dX5_count_1 rfl (lv_at hl 1 rfl) ?_
  have hPc := hP.sub (ws' := [(ra0, .inr (5, sr_ fa fb oa))]) [0] rfl
  have hDc := hD.sub (ws' := [(ra0, .inr (5, sr_ fa fb oa))]) [0] (by decide) rfl
  have hFc := va_free (wc := [(ra0, .inr (5, sr_ fa fb oa))]) hD hS hA [0] rfl
  refine vx_callr (vx_runV (As := [.int sv]) (rest := []) ⟨hx, hb, hml, hown, hts⟩ (kX5_figureOf l g cI cJ cZ s.heap.size hlt ra0 fa fb oa sv (if sv = 0 then fa else fb) (fun h => absurd h h0) (fun h => absurd h h1)) (cwV 1 hts gX5_count_X5_figureOf rfl rfl rfl (by decide +kernel) ⟨Nat.le_of_ble_eq_true rfl, Nat.le_of_ble_eq_true rfl⟩) (pve_ hev hS hFc hK hPc hDc (va_recv hK hPc (ci := 5) (q0 := 0) rfl rfl)) rfl rfl hl.1 rfl (lv_room (Nat.le_of_ble_eq_true rfl)) dX5_count_2 ⟨by show 0 + 1 ≤ 1; omega, by show 0 + 6 ≤ 6; omega⟩) hS (fun q _ h => hFc q h) hFc (fun q _ h => hFc q h) (fun E ce q9 u t H1 locs ht hvm _ hBX hz1 hk1 hS hce hcv hcl => ?_) (fun u rg t H1 locs ht hvm hwf hB hz1 hk1 hS => ?_)
  · obtain ⟨hE, hP1, hK1, hD1⟩ := hBX
    rw [ht] at hP1
    obtain ⟨hP, hD⟩ := va_join (wr := []) (w1 := [(ra0, .inr (5, sr_ fa fb oa))]) hP hD [0] [] rfl rfl (by decide) (by decide) hk1 hFc hP1 hD1
    clear hPc hDc hFc hP1 hD1 hK1 hk1 hz1 hvm ht
    generalize H1 = H at hP hS hce ⊢
    have hP : va_P g vwCl [(ra0, .inr (5, sr_ fa fb oa))] H := hP
    have hD : va_D A [(ra0, .inr (5, sr_ fa fb oa))] := hD
    have hP9 := hP.sub (ws' := [(ra0, .inr (5, sr_ fa fb oa))]) [0] rfl
    have hD9 := hD.sub (ws' := [(ra0, .inr (5, sr_ fa fb oa))]) [0] (by decide) rfl
    exact vx_out (fun x hx9 => (hnx x hx9).elim) hlocks hce hcv hcl (fun t ht hvm => ⟨(), trivial, ⟨hE.1, by rw [ht]; exact hP9, va_K.moved hvm hK, hD9⟩, hS.F ht⟩) hS.2.2 (by show 0 + 1 ≤ 1; omega) (by show 0 + 6 ≤ 6; omega)
  · obtain ⟨hra, hP1, hK1, hD1⟩ := hB
    rw [ht] at hP1
    obtain ⟨hP, hD⟩ := va_join (wr := []) (w1 := [(ra0, .inr (5, sr_ fa fb oa))]) hP hD [0] [] rfl rfl (by decide) (by decide) hk1 hFc hP1 hD1
    clear hPc hDc hFc hP1 hD1 hK1 hk1 hz1 hvm ht
    generalize H1 = H at hP hS ⊢
    have hP : va_P g vwCl [(ra0, .inr (5, sr_ fa fb oa))] H := hP
    have hD : va_D A [(ra0, .inr (5, sr_ fa fb oa))] := hD
    exact absurd hwf (fun q => q.elim h0 h1)

set_option maxHeartbeats 1000000 in
set_option maxRecDepth 100000 in
theorem kX5_locateX (l : Launch) (g : va_G) (cI cJ cZ : ClassId) (sz : Nat) (hlt : l.stackTraces = false) (ra0 : Nat) (fa : Nat) (fb : Nat) (oa : Nat) (sv : Int32) (x1 : Int32) (y1 : Int32) (h0 : ¬ sv = 0) (h1 : ¬ sv = 1) : vx_Met l yX5_locate wsX5_locate ({ frames := 7, cells := 1, slots := 6, locals := 103 }) (pce_ g cI cJ cZ [.ref ra0, .int sv, .int x1, .int y1] [(ra0, .inr (5, sr_ fa fb oa))] sz) (va_Qi (fun (r : Int32) (_ : Unit) => False) (fun (_ : Unit) t => wd_ g cI cJ cZ (va_A [(ra0, .inr (5, sr_ fa fb oa))] sz) [(ra0, .inr (5, sr_ fa fb oa))] t) (va_A [(ra0, .inr (5, sr_ fa fb oa))] sz)) (vx_X (fun _ : Unit => True) (fun E _ t => (E = "java/lang/IndexOutOfBoundsException") ∧ wd_ g cI cJ cZ (va_A [(ra0, .inr (5, sr_ fa fb oa))] sz) [(ra0, .inr (5, sr_ fa fb oa))] t) (va_A [(ra0, .inr (5, sr_ fa fb oa))] sz)) (1) (6) (va_A [(ra0, .inr (5, sr_ fa fb oa))] sz) := by
  refine vx_ofW (cc := cX5_locate) (maxL := 5) (ret := (some .int)) (by decide) rfl ?_
  intro p e s m args below meth c s₁ B hml hnx hv
  obtain ⟨rfl, ⟨hsz, hP, hK, hD0⟩, hev⟩ := hv
  have hx := B.exec
  have hb := B.bytes
  have hr := B.returns
  have hts := atoms_spec (ws := wsX5_locate) B.pre
  have hown : s.vm.findClass RX5 = some m.cls := findClass_of_methodNamed B.named
  have hlocks := B.notSynchronized
  subst hsz
  have hD := hD0.self (sz := s.heap.size)
  generalize hAe : va_A [(ra0, .inr (5, sr_ fa fb oa))] s.heap.size = A at hD hev ⊢
  have hA : ∀ q : Nat, s.heap.size ≤ q → A q := fun q h => by rw [← hAe]; exact Or.inr h
  have hS : va_S A s.heap s.heap [] := va_S.rf
  have hP : va_P g vwCl [(ra0, .inr (5, sr_ fa fb oa))] s.heap := hP
  have hl := lv_entry ([.ref ra0, .int sv, .int x1, .int y1]) (n := 5) (Nat.le_of_ble_eq_true rfl)
  rw [lg_entry_eq]
  generalize (lg_sl ([.ref ra0, .int sv, .int x1, .int y1]) ++ List.replicate (5 - (lg_sl ([.ref ra0, .int sv, .int x1, .int y1])).length) Slot.unset).toArray = ls at hl ⊢
  have hl : lv_has ls 5 [(0, .ref ra0), (1, .int sv), (2, .int x1), (3, .int y1)] := hl
  have hH0 : s.heap = s.heap := rfl
  refine lv_aload_n hx hb dX5_locate_0 rfl (lv_at hl 0 rfl) ?_
  refine lv_iload_n hx hb dX5_locate_1 rfl (lv_at hl 1 rfl) ?_
  have hPc := hP.sub (ws' := [(ra0, .inr (5, sr_ fa fb oa))]) [0] rfl
  have hDc := hD.sub (ws' := [(ra0, .inr (5, sr_ fa fb oa))]) [0] (by decide) rfl
  have hFc := va_free (wc := [(ra0, .inr (5, sr_ fa fb oa))]) hD hS hA [0] rfl
  refine vx_callr (vx_runV (As := [.int sv]) (rest := []) ⟨hx, hb, hml, hown, hts⟩ (kX5_figureOf l g cI cJ cZ s.heap.size hlt ra0 fa fb oa sv (if sv = 0 then fa else fb) (fun h => absurd h h0) (fun h => absurd h h1)) (cwV 1 hts gX5_locate_X5_figureOf rfl rfl rfl (by decide +kernel) ⟨Nat.le_of_ble_eq_true rfl, Nat.le_of_ble_eq_true rfl⟩) (pve_ hev hS hFc hK hPc hDc (va_recv hK hPc (ci := 5) (q0 := 0) rfl rfl)) rfl rfl hl.1 rfl (lv_room (Nat.le_of_ble_eq_true rfl)) dX5_locate_2 ⟨by show 0 + 1 ≤ 1; omega, by show 0 + 6 ≤ 6; omega⟩) hS (fun q _ h => hFc q h) hFc (fun q _ h => hFc q h) (fun E ce q9 u t H1 locs ht hvm _ hBX hz1 hk1 hS hce hcv hcl => ?_) (fun u rg t H1 locs ht hvm hwf hB hz1 hk1 hS => ?_)
  · obtain ⟨hE, hP1, hK1, hD1⟩ := hBX
    rw [ht] at hP1
    obtain ⟨hP, hD⟩ := va_join (wr := []) (w1 := [(ra0, .inr (5, sr_ fa fb oa))]) hP hD [0] [] rfl rfl (by decide) (by decide) hk1 hFc hP1 hD1
    clear hPc hDc hFc hP1 hD1 hK1 hk1 hz1 hvm ht
    generalize H1 = H at hP hS hce ⊢
    have hP : va_P g vwCl [(ra0, .inr (5, sr_ fa fb oa))] H := hP
    have hD : va_D A [(ra0, .inr (5, sr_ fa fb oa))] := hD
    have hP9 := hP.sub (ws' := [(ra0, .inr (5, sr_ fa fb oa))]) [0] rfl
    have hD9 := hD.sub (ws' := [(ra0, .inr (5, sr_ fa fb oa))]) [0] (by decide) rfl
    exact vx_out (fun x hx9 => (hnx x hx9).elim) hlocks hce hcv hcl (fun t ht hvm => ⟨(), trivial, ⟨hE.1, by rw [ht]; exact hP9, va_K.moved hvm hK, hD9⟩, hS.F ht⟩) hS.2.2 (by show 0 + 1 ≤ 1; omega) (by show 0 + 6 ≤ 6; omega)
  · obtain ⟨hra, hP1, hK1, hD1⟩ := hB
    rw [ht] at hP1
    obtain ⟨hP, hD⟩ := va_join (wr := []) (w1 := [(ra0, .inr (5, sr_ fa fb oa))]) hP hD [0] [] rfl rfl (by decide) (by decide) hk1 hFc hP1 hD1
    clear hPc hDc hFc hP1 hD1 hK1 hk1 hz1 hvm ht
    generalize H1 = H at hP hS ⊢
    have hP : va_P g vwCl [(ra0, .inr (5, sr_ fa fb oa))] H := hP
    have hD : va_D A [(ra0, .inr (5, sr_ fa fb oa))] := hD
    exact absurd hwf (fun q => q.elim h0 h1)

set_option maxHeartbeats 1000000 in
set_option maxRecDepth 100000 in
theorem kX5_dimensionX (l : Launch) (g : va_G) (cI cJ cZ : ClassId) (sz : Nat) (hlt : l.stackTraces = false) (ra0 : Nat) (fa : Nat) (fb : Nat) (oa : Nat) (sv : Int32) (h0 : ¬ sv = 0) (h1 : ¬ sv = 1) : vx_Met l yX5_dimension wsX5_dimension ({ frames := 7, cells := 1, slots := 6, locals := 103 }) (pce_ g cI cJ cZ [.ref ra0, .int sv] [(ra0, .inr (5, sr_ fa fb oa))] sz) (va_Qi (fun (r : Int32) (_ : Unit) => False) (fun (_ : Unit) t => wd_ g cI cJ cZ (va_A [(ra0, .inr (5, sr_ fa fb oa))] sz) [(ra0, .inr (5, sr_ fa fb oa))] t) (va_A [(ra0, .inr (5, sr_ fa fb oa))] sz)) (vx_X (fun _ : Unit => True) (fun E _ t => (E = "java/lang/IndexOutOfBoundsException") ∧ wd_ g cI cJ cZ (va_A [(ra0, .inr (5, sr_ fa fb oa))] sz) [(ra0, .inr (5, sr_ fa fb oa))] t) (va_A [(ra0, .inr (5, sr_ fa fb oa))] sz)) (1) (6) (va_A [(ra0, .inr (5, sr_ fa fb oa))] sz) := by
  refine vx_ofW (cc := cX5_dimension) (maxL := 3) (ret := (some .int)) (by decide) rfl ?_
  intro p e s m args below meth c s₁ B hml hnx hv
  obtain ⟨rfl, ⟨hsz, hP, hK, hD0⟩, hev⟩ := hv
  have hx := B.exec
  have hb := B.bytes
  have hr := B.returns
  have hts := atoms_spec (ws := wsX5_dimension) B.pre
  have hown : s.vm.findClass RX5 = some m.cls := findClass_of_methodNamed B.named
  have hlocks := B.notSynchronized
  subst hsz
  have hD := hD0.self (sz := s.heap.size)
  generalize hAe : va_A [(ra0, .inr (5, sr_ fa fb oa))] s.heap.size = A at hD hev ⊢
  have hA : ∀ q : Nat, s.heap.size ≤ q → A q := fun q h => by rw [← hAe]; exact Or.inr h
  have hS : va_S A s.heap s.heap [] := va_S.rf
  have hP : va_P g vwCl [(ra0, .inr (5, sr_ fa fb oa))] s.heap := hP
  have hl := lv_entry ([.ref ra0, .int sv]) (n := 3) (Nat.le_of_ble_eq_true rfl)
  rw [lg_entry_eq]
  generalize (lg_sl ([.ref ra0, .int sv]) ++ List.replicate (3 - (lg_sl ([.ref ra0, .int sv])).length) Slot.unset).toArray = ls at hl ⊢
  have hl : lv_has ls 3 [(0, .ref ra0), (1, .int sv)] := hl
  have hH0 : s.heap = s.heap := rfl
  refine lv_aload_n hx hb dX5_dimension_0 rfl (lv_at hl 0 rfl) ?_
  refine lv_iload_n hx hb dX5_dimension_1 rfl (lv_at hl 1 rfl) ?_
  have hPc := hP.sub (ws' := [(ra0, .inr (5, sr_ fa fb oa))]) [0] rfl
  have hDc := hD.sub (ws' := [(ra0, .inr (5, sr_ fa fb oa))]) [0] (by decide) rfl
  have hFc := va_free (wc := [(ra0, .inr (5, sr_ fa fb oa))]) hD hS hA [0] rfl
  refine vx_callr (vx_runV (As := [.int sv]) (rest := []) ⟨hx, hb, hml, hown, hts⟩ (kX5_figureOf l g cI cJ cZ s.heap.size hlt ra0 fa fb oa sv (if sv = 0 then fa else fb) (fun h => absurd h h0) (fun h => absurd h h1)) (cwV 1 hts gX5_dimension_X5_figureOf rfl rfl rfl (by decide +kernel) ⟨Nat.le_of_ble_eq_true rfl, Nat.le_of_ble_eq_true rfl⟩) (pve_ hev hS hFc hK hPc hDc (va_recv hK hPc (ci := 5) (q0 := 0) rfl rfl)) rfl rfl hl.1 rfl (lv_room (Nat.le_of_ble_eq_true rfl)) dX5_dimension_2 ⟨by show 0 + 1 ≤ 1; omega, by show 0 + 6 ≤ 6; omega⟩) hS (fun q _ h => hFc q h) hFc (fun q _ h => hFc q h) (fun E ce q9 u t H1 locs ht hvm _ hBX hz1 hk1 hS hce hcv hcl => ?_) (fun u rg t H1 locs ht hvm hwf hB hz1 hk1 hS => ?_)
  · obtain ⟨hE, hP1, hK1, hD1⟩ := hBX
    rw [ht] at hP1
    obtain ⟨hP, hD⟩ := va_join (wr := []) (w1 := [(ra0, .inr (5, sr_ fa fb oa))]) hP hD [0] [] rfl rfl (by decide) (by decide) hk1 hFc hP1 hD1
    clear hPc hDc hFc hP1 hD1 hK1 hk1 hz1 hvm ht
    generalize H1 = H at hP hS hce ⊢
    have hP : va_P g vwCl [(ra0, .inr (5, sr_ fa fb oa))] H := hP
    have hD : va_D A [(ra0, .inr (5, sr_ fa fb oa))] := hD
    have hP9 := hP.sub (ws' := [(ra0, .inr (5, sr_ fa fb oa))]) [0] rfl
    have hD9 := hD.sub (ws' := [(ra0, .inr (5, sr_ fa fb oa))]) [0] (by decide) rfl
    exact vx_out (fun x hx9 => (hnx x hx9).elim) hlocks hce hcv hcl (fun t ht hvm => ⟨(), trivial, ⟨hE.1, by rw [ht]; exact hP9, va_K.moved hvm hK, hD9⟩, hS.F ht⟩) hS.2.2 (by show 0 + 1 ≤ 1; omega) (by show 0 + 6 ≤ 6; omega)
  · obtain ⟨hra, hP1, hK1, hD1⟩ := hB
    rw [ht] at hP1
    obtain ⟨hP, hD⟩ := va_join (wr := []) (w1 := [(ra0, .inr (5, sr_ fa fb oa))]) hP hD [0] [] rfl rfl (by decide) (by decide) hk1 hFc hP1 hD1
    clear hPc hDc hFc hP1 hD1 hK1 hk1 hz1 hvm ht
    generalize H1 = H at hP hS ⊢
    have hP : va_P g vwCl [(ra0, .inr (5, sr_ fa fb oa))] H := hP
    have hD : va_D A [(ra0, .inr (5, sr_ fa fb oa))] := hD
    exact absurd hwf (fun q => q.elim h0 h1)
end
