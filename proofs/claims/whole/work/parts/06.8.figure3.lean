section
theorem ikX3_prepare_X3 : ∀ w ∈ wsX30, w ∈ wsX3_prepare := by decide +kernel
set_option maxHeartbeats 1000000 in
set_option maxRecDepth 100000 in
theorem kX3_prepare (l : Launch) (g : va_G) (cI cJ cZ : ClassId) (sz : Nat) (fa : Nat) (kd : Int32) (pp : Nat) (nn : Nat) (qx : Nat) (qy : Nat) (qs : Nat) (pr : Int32) (sc : Int32) (qt : Nat) (qh : Nat) (mn : Int32) (qm : Nat) (qd : Nat) (cx : Nat) (xs : Nat → Int32) (ys : Nat → Int32) (cp : Nat) (st : Nat → Int32) (ct : Nat) (ta : Nat → Int32) (he : Nat → Int32) (ma : Nat → Int32) (sd : Nat → Int64) (sn : Nat → Nat) (h1 : ct < 100000) (h2 : cx < 100000) (h3 : cp < 100000) (h4 : pp ≤ cp) (h5 : nn ≤ cx) (h6 : sta_ sn pp nn st) (h7 : pr = 0 ∨ (pr = 1 ∧ cx ≤ ct ∧ sc = nI (prS_ kd xs ys sn pp nn pp).length ∧ mn = nI (prM_ kd xs ys sn pp nn pp).length ∧ sl_ ta he (prS_ kd xs ys sn pp nn pp) ∧ al_ ma (prM_ kd xs ys sn pp nn pp))) : Met l yX3_prepare wsX3_prepare ({ frames := 3, cells := 4, slots := 4 * cx, locals := 69 }) (pc_ g cI cJ cZ [.ref fa] [(fa, .inr (3, fg_ kd (nI pp) (nI nn) qx qy qs pr sc qt qh mn qm qd)), (qx, .inl (cI, cx, .inl xs)), (qy, .inl (cI, cx, .inl ys)), (qs, .inl (cI, cp, .inl st)), (qt, .inl (cI, ct, .inl ta)), (qh, .inl (cI, ct, .inl he)), (qm, .inl (cI, ct, .inl ma)), (qd, .inl (cJ, ct, .inr (.inl sd)))] sz) (va_Qv (fun (u : Nat × (Nat → Int32) × (Nat → Int32) × (Nat → Int32) × (Nat → Int64)) => match u with | (ct2, ta2, he2, ma2, sd2) => cx ≤ ct2 ∧ ct2 < 100000 ∧ (ct2 = ct ∨ ct2 = cx) ∧ sl_ ta2 he2 (prS_ kd xs ys sn pp nn pp) ∧ al_ ma2 (prM_ kd xs ys sn pp nn pp)) (fun (u : Nat × (Nat → Int32) × (Nat → Int32) × (Nat → Int32) × (Nat → Int64)) t => match u with | (ct2, ta2, he2, ma2, sd2) => ∃ (qt2 : Nat) (qh2 : Nat) (qm2 : Nat) (qd2 : Nat), wd_ g cI cJ cZ (va_A [(fa, .inr (3, fg_ kd (nI pp) (nI nn) qx qy qs pr sc qt qh mn qm qd)), (qx, .inl (cI, cx, .inl xs)), (qy, .inl (cI, cx, .inl ys)), (qs, .inl (cI, cp, .inl st)), (qt, .inl (cI, ct, .inl ta)), (qh, .inl (cI, ct, .inl he)), (qm, .inl (cI, ct, .inl ma)), (qd, .inl (cJ, ct, .inr (.inl sd)))] sz) [(fa, .inr (3, fg_ kd (nI pp) (nI nn) qx qy qs 1 (nI (prS_ kd xs ys sn pp nn pp).length) qt2 qh2 (nI (prM_ kd xs ys sn pp nn pp).length) qm2 qd2)), (qx, .inl (cI, cx, .inl xs)), (qy, .inl (cI, cx, .inl ys)), (qs, .inl (cI, cp, .inl st)), (qt2, .inl (cI, ct2, .inl ta2)), (qh2, .inl (cI, ct2, .inl he2)), (qm2, .inl (cI, ct2, .inl ma2)), (qd2, .inl (cJ, ct2, .inr (.inl sd2)))] t) (va_A [(fa, .inr (3, fg_ kd (nI pp) (nI nn) qx qy qs pr sc qt qh mn qm qd)), (qx, .inl (cI, cx, .inl xs)), (qy, .inl (cI, cx, .inl ys)), (qs, .inl (cI, cp, .inl st)), (qt, .inl (cI, ct, .inl ta)), (qh, .inl (cI, ct, .inl he)), (qm, .inl (cI, ct, .inl ma)), (qd, .inl (cJ, ct, .inr (.inl sd)))] sz)) (4) (4 * cx) (va_A [(fa, .inr (3, fg_ kd (nI pp) (nI nn) qx qy qs pr sc qt qh mn qm qd)), (qx, .inl (cI, cx, .inl xs)), (qy, .inl (cI, cx, .inl ys)), (qs, .inl (cI, cp, .inl st)), (qt, .inl (cI, ct, .inl ta)), (qh, .inl (cI, ct, .inl he)), (qm, .inl (cI, ct, .inl ma)), (qd, .inl (cJ, ct, .inr (.inl sd)))] sz) := by
  refine Met.ofW (cc := cX3_prepare) (maxL := 4) (ret := none) (by decide) rfl ?_
  intro p e s m args below meth c s₁ B hml hv
  obtain ⟨rfl, hsz, hP, hK, hD0⟩ := hv
  have hx := B.exec
  have hb := B.bytes
  have hr := B.returns
  have hts := atoms_spec (ws := wsX3_prepare) B.pre
  have hown : s.vm.findClass RX3 = some m.cls := findClass_of_methodNamed B.named
  have hlocks := B.notSynchronized
  subst hsz
  have hD := hD0.self (sz := s.heap.size)
  generalize hAe : va_A [(fa, .inr (3, fg_ kd (nI pp) (nI nn) qx qy qs pr sc qt qh mn qm qd)), (qx, .inl (cI, cx, .inl xs)), (qy, .inl (cI, cx, .inl ys)), (qs, .inl (cI, cp, .inl st)), (qt, .inl (cI, ct, .inl ta)), (qh, .inl (cI, ct, .inl he)), (qm, .inl (cI, ct, .inl ma)), (qd, .inl (cJ, ct, .inr (.inl sd)))] s.heap.size = A at hD ⊢
  have hA : ∀ q : Nat, s.heap.size ≤ q → A q := fun q h => by rw [← hAe]; exact Or.inr h
  have hS : va_S A s.heap s.heap [] := va_S.rf
  have hP : va_P g vwCl [(fa, .inr (3, fg_ kd (nI pp) (nI nn) qx qy qs pr sc qt qh mn qm qd)), (qx, .inl (cI, cx, .inl xs)), (qy, .inl (cI, cx, .inl ys)), (qs, .inl (cI, cp, .inl st)), (qt, .inl (cI, ct, .inl ta)), (qh, .inl (cI, ct, .inl he)), (qm, .inl (cI, ct, .inl ma)), (qd, .inl (cJ, ct, .inr (.inl sd)))] s.heap := hP
  have hl := lv_entry ([.ref fa]) (n := 4) (Nat.le_of_ble_eq_true rfl)
  rw [lg_entry_eq]
  generalize (lg_sl ([.ref fa]) ++ List.replicate (4 - (lg_sl ([.ref fa])).length) Slot.unset).toArray = ls at hl ⊢
  have hl : lv_has ls 4 [(0, .ref fa)] := hl
  have hH0 : s.heap = s.heap := rfl
  have hiX3 := ikX3_prepare_X3
  refine lv_aload_n hx hb dX3_prepare_0 rfl (lv_at hl 0 rfl) ?_
  refine va_get (D := g) (ci := 3) (v := .int pr) (C := RX3) (T := TX3) (N := 13) hx hb hts hiX3 hown hK hP 0 rfl rfl 6 (by decide) (hts (.fieldLink RX3 31 "ShapeRelator$Figure" "prepared" "Z") (List.mem_of_getElem? (i := 1) rfl)) (fun _ h9 => h9) rfl dX3_prepare_1 ?_
  refine lv_if_eq (tgt := 8) hx hb dX3_prepare_4 (by decide) (fun c1 => ?_) (fun c1 => ?_)
  · clear h7
    refine lv_aload_n hx hb dX3_prepare_8 rfl (lv_at hl 0 rfl) ?_
    have hPc := hP.sub (ws' := [(fa, .inr (3, fg_ kd (nI pp) (nI nn) qx qy qs pr sc qt qh mn qm qd)), (qx, .inl (cI, cx, .inl xs)), (qy, .inl (cI, cx, .inl ys)), (qt, .inl (cI, ct, .inl ta)), (qh, .inl (cI, ct, .inl he)), (qm, .inl (cI, ct, .inl ma)), (qd, .inl (cJ, ct, .inr (.inl sd)))]) [0, 1, 2, 4, 5, 6, 7] rfl
    have hDc := hD.sub (ws' := [(fa, .inr (3, fg_ kd (nI pp) (nI nn) qx qy qs pr sc qt qh mn qm qd)), (qx, .inl (cI, cx, .inl xs)), (qy, .inl (cI, cx, .inl ys)), (qt, .inl (cI, ct, .inl ta)), (qh, .inl (cI, ct, .inl he)), (qm, .inl (cI, ct, .inl ma)), (qd, .inl (cJ, ct, .inr (.inl sd)))]) [0, 1, 2, 4, 5, 6, 7] (by decide) rfl
    have hFc := va_free (wc := [(fa, .inr (3, fg_ kd (nI pp) (nI nn) qx qy qs pr sc qt qh mn qm qd)), (qx, .inl (cI, cx, .inl xs)), (qy, .inl (cI, cx, .inl ys)), (qt, .inl (cI, ct, .inl ta)), (qh, .inl (cI, ct, .inl he)), (qm, .inl (cI, ct, .inl ma)), (qd, .inl (cJ, ct, .inr (.inl sd)))]) hD hS hA [0, 1, 2, 4, 5, 6, 7] rfl
    refine va_callv (va_runV (As := []) (rest := []) ⟨hx, hb, hml, hown, hts⟩ (kX3_makeRoomForPrepared l g cI cJ cZ s.heap.size fa kd (nI pp) (nI nn) qx qy qs pr sc qt qh mn qm qd cx xs ys ct ta he ma sd h1 h2) (cwV 0 hts gX3_prepare_X3_makeRoomForPrepared rfl rfl rfl (by decide +kernel) ⟨Nat.le_of_ble_eq_true rfl, Nat.le_of_ble_eq_true rfl⟩) (pv_ hK hPc hDc (va_recv hK hPc (ci := 3) (q0 := 0) rfl rfl)) rfl rfl hl.1 rfl (lv_room (Nat.le_of_ble_eq_true rfl)) dX3_prepare_9 ⟨by show 0 + 4 ≤ 4; omega, by show 0 + (4 * cx) ≤ 4 * cx; omega⟩) hS (fun q _ h => hFc q h) hFc (fun u t H1 locs ht hvm hw hB hz1 hk1 hS => ?_)
    obtain ⟨ta1, he1, ma1, sd1⟩ := u
    obtain ⟨qt1, qh1, qm1, qd1, hP1, hK1, hD1⟩ := hB
    rw [ht] at hP1
    dsimp only at hw
    obtain ⟨hP, hD⟩ := va_join (wr := [(qs, .inl (cI, cp, .inl st))]) (w1 := [(fa, .inr (3, fg_ kd (nI pp) (nI nn) qx qy qs pr sc qt1 qh1 mn qm1 qd1)), (qx, .inl (cI, cx, .inl xs)), (qy, .inl (cI, cx, .inl ys)), (qt1, .inl (cI, mr_ ct cx, .inl ta1)), (qh1, .inl (cI, mr_ ct cx, .inl he1)), (qm1, .inl (cI, mr_ ct cx, .inl ma1)), (qd1, .inl (cJ, mr_ ct cx, .inr (.inl sd1)))]) hP hD [0, 1, 2, 4, 5, 6, 7] [3] rfl rfl (by decide) (by decide) hk1 hFc hP1 hD1
    clear hPc hDc hFc hP1 hD1 hK1 hk1 hz1 hvm ht
    generalize H1 = H at hP hS ⊢
    have hP : va_P g vwCl [(qs, .inl (cI, cp, .inl st)), (fa, .inr (3, fg_ kd (nI pp) (nI nn) qx qy qs pr sc qt1 qh1 mn qm1 qd1)), (qx, .inl (cI, cx, .inl xs)), (qy, .inl (cI, cx, .inl ys)), (qt1, .inl (cI, mr_ ct cx, .inl ta1)), (qh1, .inl (cI, mr_ ct cx, .inl he1)), (qm1, .inl (cI, mr_ ct cx, .inl ma1)), (qd1, .inl (cJ, mr_ ct cx, .inr (.inl sd1)))] H := hP
    have hD : va_D A [(qs, .inl (cI, cp, .inl st)), (fa, .inr (3, fg_ kd (nI pp) (nI nn) qx qy qs pr sc qt1 qh1 mn qm1 qd1)), (qx, .inl (cI, cx, .inl xs)), (qy, .inl (cI, cx, .inl ys)), (qt1, .inl (cI, mr_ ct cx, .inl ta1)), (qh1, .inl (cI, mr_ ct cx, .inl he1)), (qm1, .inl (cI, mr_ ct cx, .inl ma1)), (qd1, .inl (cJ, mr_ ct cx, .inr (.inl sd1)))] := hD
    obtain ⟨ct1, ect1⟩ : ∃ z, z = mr_ ct cx := ⟨_, rfl⟩
    rw [← ect1] at hP hD
    have hP : va_P g vwCl [(qs, .inl (cI, cp, .inl st)), (fa, .inr (3, fg_ kd (nI pp) (nI nn) qx qy qs pr sc qt1 qh1 mn qm1 qd1)), (qx, .inl (cI, cx, .inl xs)), (qy, .inl (cI, cx, .inl ys)), (qt1, .inl (cI, ct1, .inl ta1)), (qh1, .inl (cI, ct1, .inl he1)), (qm1, .inl (cI, ct1, .inl ma1)), (qd1, .inl (cJ, ct1, .inr (.inl sd1)))] H := hP
    have hD : va_D A [(qs, .inl (cI, cp, .inl st)), (fa, .inr (3, fg_ kd (nI pp) (nI nn) qx qy qs pr sc qt1 qh1 mn qm1 qd1)), (qx, .inl (cI, cx, .inl xs)), (qy, .inl (cI, cx, .inl ys)), (qt1, .inl (cI, ct1, .inl ta1)), (qh1, .inl (cI, ct1, .inl he1)), (qm1, .inl (cI, ct1, .inl ma1)), (qd1, .inl (cJ, ct1, .inr (.inl sd1)))] := hD
    have hc1 : cx ≤ ct1 ∧ ct1 < 100000 ∧ (ct1 = ct ∨ ct1 = cx) := by rw [ect1]; unfold mr_; split <;> omega
    refine W.widen (k := 4) (n := 4 * cx) (by omega) (by omega) ?_
    refine lv_aload_n hx hb dX3_prepare_12 rfl (lv_at hl 0 rfl) ?_
    refine lv_iconst (v := 0) hx hb dX3_prepare_13 (by decide) ?_
    refine va_put (D := g) (ci := 3) (v := .int 0) (ty := .int) (C := RX3) (T := TX3) (N := 13) hx hb hts hiX3 tyX3 tyX3_ok nmX3 hown hK hP hD hS 1 rfl rfl 7 (by decide) (hts (.fieldLink RX3 35 "ShapeRelator$Figure" "segmentCount" "I") (List.mem_of_getElem? (i := 2) rfl)) (fun _ h9 => h9) rfl (by decide +kernel) rfl rfl (Nat.le_of_ble_eq_true rfl) dX3_prepare_14 (fun H locs hP hD hS => ?_)
    have hP : va_P g vwCl [(qs, .inl (cI, cp, .inl st)), (fa, .inr (3, fg_ kd (nI pp) (nI nn) qx qy qs pr 0 qt1 qh1 mn qm1 qd1)), (qx, .inl (cI, cx, .inl xs)), (qy, .inl (cI, cx, .inl ys)), (qt1, .inl (cI, ct1, .inl ta1)), (qh1, .inl (cI, ct1, .inl he1)), (qm1, .inl (cI, ct1, .inl ma1)), (qd1, .inl (cJ, ct1, .inr (.inl sd1)))] H := hP
    have hD : va_D A [(qs, .inl (cI, cp, .inl st)), (fa, .inr (3, fg_ kd (nI pp) (nI nn) qx qy qs pr 0 qt1 qh1 mn qm1 qd1)), (qx, .inl (cI, cx, .inl xs)), (qy, .inl (cI, cx, .inl ys)), (qt1, .inl (cI, ct1, .inl ta1)), (qh1, .inl (cI, ct1, .inl he1)), (qm1, .inl (cI, ct1, .inl ma1)), (qd1, .inl (cJ, ct1, .inr (.inl sd1)))] := hD
    refine lv_aload_n hx hb dX3_prepare_17 rfl (lv_at hl 0 rfl) ?_
    refine lv_iconst (v := 0) hx hb dX3_prepare_18 (by decide) ?_
    refine va_put (D := g) (ci := 3) (v := .int 0) (ty := .int) (C := RX3) (T := TX3) (N := 13) hx hb hts hiX3 tyX3 tyX3_ok nmX3 hown hK hP hD hS 1 rfl rfl 10 (by decide) (hts (.fieldLink RX3 44 "ShapeRelator$Figure" "markCount" "I") (List.mem_of_getElem? (i := 3) rfl)) (fun _ h9 => h9) rfl (by decide +kernel) rfl rfl (Nat.le_of_ble_eq_true rfl) dX3_prepare_19 (fun H locs hP hD hS => ?_)
    have hP : va_P g vwCl [(qs, .inl (cI, cp, .inl st)), (fa, .inr (3, fg_ kd (nI pp) (nI nn) qx qy qs pr 0 qt1 qh1 0 qm1 qd1)), (qx, .inl (cI, cx, .inl xs)), (qy, .inl (cI, cx, .inl ys)), (qt1, .inl (cI, ct1, .inl ta1)), (qh1, .inl (cI, ct1, .inl he1)), (qm1, .inl (cI, ct1, .inl ma1)), (qd1, .inl (cJ, ct1, .inr (.inl sd1)))] H := hP
    have hD : va_D A [(qs, .inl (cI, cp, .inl st)), (fa, .inr (3, fg_ kd (nI pp) (nI nn) qx qy qs pr 0 qt1 qh1 0 qm1 qd1)), (qx, .inl (cI, cx, .inl xs)), (qy, .inl (cI, cx, .inl ys)), (qt1, .inl (cI, ct1, .inl ta1)), (qh1, .inl (cI, ct1, .inl he1)), (qm1, .inl (cI, ct1, .inl ma1)), (qd1, .inl (cJ, ct1, .inr (.inl sd1)))] := hD
    refine lv_iconst (v := 0) hx hb dX3_prepare_22 (by decide) ?_
    refine lv_istore_n (lv' := [(1, .int 0), (0, .ref fa)]) hx hb dX3_prepare_23 rfl hl (by decide) rfl (fun ls hl => ?_)
    refine lpW (σ := Nat × (Nat → Int32) × (Nat → Int32) × (Nat → Int32)) (fun (i, t1, u1, m1) => pp - i) (fun (i, t1, u1, m1) => 4) (fun (i, t1, u1, m1) => 4 * cx) (fun (i, t1, u1, m1) H locs ls => (i ≤ pp ∧ sl_ t1 u1 (prS_ kd xs ys sn pp nn i) ∧ al_ m1 (prM_ kd xs ys sn pp nn i)) ∧ va_P g vwCl [(qs, .inl (cI, cp, .inl st)), (fa, .inr (3, fg_ kd (nI pp) (nI nn) qx qy qs pr (nI (prS_ kd xs ys sn pp nn i).length) qt1 qh1 (nI (prM_ kd xs ys sn pp nn i).length) qm1 qd1)), (qx, .inl (cI, cx, .inl xs)), (qy, .inl (cI, cx, .inl ys)), (qt1, .inl (cI, ct1, .inl t1)), (qh1, .inl (cI, ct1, .inl u1)), (qm1, .inl (cI, ct1, .inl m1)), (qd1, .inl (cJ, ct1, .inr (.inl sd1)))] H ∧ va_D A [(qs, .inl (cI, cp, .inl st)), (fa, .inr (3, fg_ kd (nI pp) (nI nn) qx qy qs pr (nI (prS_ kd xs ys sn pp nn i).length) qt1 qh1 (nI (prM_ kd xs ys sn pp nn i).length) qm1 qd1)), (qx, .inl (cI, cx, .inl xs)), (qy, .inl (cI, cx, .inl ys)), (qt1, .inl (cI, ct1, .inl t1)), (qh1, .inl (cI, ct1, .inl u1)), (qm1, .inl (cI, ct1, .inl m1)), (qd1, .inl (cJ, ct1, .inr (.inl sd1)))] ∧ va_S A s.heap H locs ∧ lv_has ls 4 [(1, .int (nI i)), (0, .ref fa)]) (fun x ih H locs ls hI => ?_) (0, ta1, he1, ma1) rfl rfl ⟨⟨Nat.zero_le _, sl_0, al_0⟩, hP, hD, hS, (lv_sub hl [0, 1] rfl)⟩
    obtain ⟨i, t1, u1, m1⟩ := x
    obtain ⟨hi, hP, hD, hS, hl⟩ := hI
    have hP : va_P g vwCl [(qs, .inl (cI, cp, .inl st)), (fa, .inr (3, fg_ kd (nI pp) (nI nn) qx qy qs pr (nI (prS_ kd xs ys sn pp nn i).length) qt1 qh1 (nI (prM_ kd xs ys sn pp nn i).length) qm1 qd1)), (qx, .inl (cI, cx, .inl xs)), (qy, .inl (cI, cx, .inl ys)), (qt1, .inl (cI, ct1, .inl t1)), (qh1, .inl (cI, ct1, .inl u1)), (qm1, .inl (cI, ct1, .inl m1)), (qd1, .inl (cJ, ct1, .inr (.inl sd1)))] H := hP
    have hD : va_D A [(qs, .inl (cI, cp, .inl st)), (fa, .inr (3, fg_ kd (nI pp) (nI nn) qx qy qs pr (nI (prS_ kd xs ys sn pp nn i).length) qt1 qh1 (nI (prM_ kd xs ys sn pp nn i).length) qm1 qd1)), (qx, .inl (cI, cx, .inl xs)), (qy, .inl (cI, cx, .inl ys)), (qt1, .inl (cI, ct1, .inl t1)), (qh1, .inl (cI, ct1, .inl u1)), (qm1, .inl (cI, ct1, .inl m1)), (qd1, .inl (cJ, ct1, .inr (.inl sd1)))] := hD
    have hl : lv_has ls 4 [(1, .int (nI i)), (0, .ref fa)] := hl
    show W p l e _ s m _ below meth c H locs (4) (4 * cx) _ (F0 m 24 ls [])
    obtain ⟨hi1, hi2, hi3⟩ := hi
    refine lv_iload_n hx hb dX3_prepare_24 rfl (lv_at hl 0 rfl) ?_
    refine lv_aload_n hx hb dX3_prepare_25 rfl (lv_at hl 1 rfl) ?_
    refine va_get (D := g) (ci := 3) (v := .int (nI pp)) (C := RX3) (T := TX3) (N := 13) hx hb hts hiX3 hown hK hP 1 rfl rfl 1 (by decide) (hts (.fieldLink RX3 15 "ShapeRelator$Figure" "partCount" "I") (List.mem_of_getElem? (i := 4) rfl)) (fun _ h9 => h9) rfl dX3_prepare_26 ?_
    refine lv_icmp_ge (tgt := 84) hx hb dX3_prepare_29 (by decide) (fun c2 => ?_) (fun c2 => ?_)
    · have e1 : pp = i := by have := i_ge c2 (by omega) (by omega); omega
      subst e1
      refine lv_aload_n hx hb dX3_prepare_84 rfl (lv_at hl 1 rfl) ?_
      refine lv_iconst (v := 1) hx hb dX3_prepare_85 (by decide) ?_
      refine va_put (D := g) (ci := 3) (v := .int 1) (ty := .boolean) (C := RX3) (T := TX3) (N := 13) hx hb hts hiX3 tyX3 tyX3_ok nmX3 hown hK hP hD hS 1 rfl rfl 6 (by decide) (hts (.fieldLink RX3 31 "ShapeRelator$Figure" "prepared" "Z") (List.mem_of_getElem? (i := 1) rfl)) (fun _ h9 => h9) rfl (by decide +kernel) (by decide +kernel) (by decide +kernel) (Nat.le_of_ble_eq_true rfl) dX3_prepare_86 (fun H locs hP hD hS => ?_)
      have hP : va_P g vwCl [(qs, .inl (cI, cp, .inl st)), (fa, .inr (3, fg_ kd (nI pp) (nI nn) qx qy qs 1 (nI (prS_ kd xs ys sn pp nn pp).length) qt1 qh1 (nI (prM_ kd xs ys sn pp nn pp).length) qm1 qd1)), (qx, .inl (cI, cx, .inl xs)), (qy, .inl (cI, cx, .inl ys)), (qt1, .inl (cI, ct1, .inl t1)), (qh1, .inl (cI, ct1, .inl u1)), (qm1, .inl (cI, ct1, .inl m1)), (qd1, .inl (cJ, ct1, .inr (.inl sd1)))] H := hP
      have hD : va_D A [(qs, .inl (cI, cp, .inl st)), (fa, .inr (3, fg_ kd (nI pp) (nI nn) qx qy qs 1 (nI (prS_ kd xs ys sn pp nn pp).length) qt1 qh1 (nI (prM_ kd xs ys sn pp nn pp).length) qm1 qd1)), (qx, .inl (cI, cx, .inl xs)), (qy, .inl (cI, cx, .inl ys)), (qt1, .inl (cI, ct1, .inl t1)), (qh1, .inl (cI, ct1, .inl u1)), (qm1, .inl (cI, ct1, .inl m1)), (qd1, .inl (cJ, ct1, .inr (.inl sd1)))] := hD
      have hP9 := hP.sub (ws' := [(fa, .inr (3, fg_ kd (nI pp) (nI nn) qx qy qs 1 (nI (prS_ kd xs ys sn pp nn pp).length) qt1 qh1 (nI (prM_ kd xs ys sn pp nn pp).length) qm1 qd1)), (qx, .inl (cI, cx, .inl xs)), (qy, .inl (cI, cx, .inl ys)), (qs, .inl (cI, cp, .inl st)), (qt1, .inl (cI, ct1, .inl t1)), (qh1, .inl (cI, ct1, .inl u1)), (qm1, .inl (cI, ct1, .inl m1)), (qd1, .inl (cJ, ct1, .inr (.inl sd1)))]) [1, 2, 3, 0, 4, 5, 6, 7] rfl
      have hD9 := hD.sub (ws' := [(fa, .inr (3, fg_ kd (nI pp) (nI nn) qx qy qs 1 (nI (prS_ kd xs ys sn pp nn pp).length) qt1 qh1 (nI (prM_ kd xs ys sn pp nn pp).length) qm1 qd1)), (qx, .inl (cI, cx, .inl xs)), (qy, .inl (cI, cx, .inl ys)), (qs, .inl (cI, cp, .inl st)), (qt1, .inl (cI, ct1, .inl t1)), (qh1, .inl (cI, ct1, .inl u1)), (qm1, .inl (cI, ct1, .inl m1)), (qd1, .inl (cJ, ct1, .inr (.inl sd1)))]) [1, 2, 3, 0, 4, 5, 6, 7] (by decide) rfl
      exact W.vret hx hb hr (fun t ht hW => ⟨⟨(ct1, t1, u1, m1, sd1), rfl, ⟨hc1.1, hc1.2.1, hc1.2.2, hi2, hi3⟩, qt1, qh1, qm1, qd1, by rw [ht]; exact hP9, va_K.moved hW.alike hK, hD9⟩, hS.F ht⟩) hS.2.2 dX3_prepare_89
    · have e1 : i < pp := i_nge c2 (by omega) (by omega)
      have e2 := h6.1 i e1
      have e3 : (prS_ kd xs ys sn pp nn i).length ≤ sn i ∧ (prM_ kd xs ys sn pp nn i).length ≤ sn i ∧ (∀ q ∈ prM_ kd xs ys sn pp nn i, q < nn) := prL_ h6 e1 (by omega)
      refine lv_aload_n hx hb dX3_prepare_32 rfl (lv_at hl 1 rfl) ?_
      refine va_get (D := g) (ci := 3) (v := .ref qs) (C := RX3) (T := TX3) (N := 13) hx hb hts hiX3 hown hK hP 1 rfl rfl 5 (by decide) (hts (.fieldLink RX3 28 "ShapeRelator$Figure" "partStarts" "[I") (List.mem_of_getElem? (i := 5) rfl)) (fun _ h9 => h9) rfl dX3_prepare_33 ?_
      refine lv_iload_n hx hb dX3_prepare_36 rfl (lv_at hl 0 rfl) ?_
      refine va_iald (D := g) hx hb hK hP 0 0 rfl rfl (vp_in_nI (show i < cp by omega) (by omega)) dX3_prepare_37 ?_
      refine tpi_ (y := (nI (sn i))) (by rw [nI_clamp (by omega), e2.1]) ?_
      refine lv_istore_n (lv' := [(2, .int (nI (sn i))), (1, .int (nI i)), (0, .ref fa)]) hx hb dX3_prepare_38 rfl hl (by decide) rfl (fun ls hl => ?_)
      refine jnV (α := Int32) (ls := ls) (pc2 := 64) (fun v => v = nI (pe_ sn pp nn i)) (fun v => [.int v]) (fun J => ?_) (fun v hv => ?_)
      · refine lv_iload_n hx hb dX3_prepare_39 rfl (lv_at hl 1 rfl) ?_
        refine lv_iconst (v := 1) hx hb dX3_prepare_40 (by decide) ?_
        refine lv_iadd hx hb dX3_prepare_41 ?_
        refine tpi_ (y := (nI (i + 1))) ((nI_1 i).symm) ?_
        refine lv_aload_n hx hb dX3_prepare_42 rfl (lv_at hl 2 rfl) ?_
        refine va_get (D := g) (ci := 3) (v := .int (nI pp)) (C := RX3) (T := TX3) (N := 13) hx hb hts hiX3 hown hK hP 1 rfl rfl 1 (by decide) (hts (.fieldLink RX3 15 "ShapeRelator$Figure" "partCount" "I") (List.mem_of_getElem? (i := 4) rfl)) (fun _ h9 => h9) rfl dX3_prepare_43 ?_
        refine lv_icmp_ge (tgt := 60) hx hb dX3_prepare_46 (by decide) (fun c3 => ?_) (fun c3 => ?_)
        · have q1 : pp ≤ i + 1 := i_ge c3 (by omega) (by omega)
          refine lv_aload_n hx hb dX3_prepare_60 rfl (lv_at hl 2 rfl) ?_
          refine va_get (D := g) (ci := 3) (v := .int (nI nn)) (C := RX3) (T := TX3) (N := 13) hx hb hts hiX3 hown hK hP 1 rfl rfl 2 (by decide) (hts (.fieldLink RX3 18 "ShapeRelator$Figure" "pointCount" "I") (List.mem_of_getElem? (i := 6) rfl)) (fun _ h9 => h9) rfl dX3_prepare_61 ?_
          exact J _ (by unfold pe_; rw [if_neg (by omega)])
        · have q1 : i + 1 < pp := i_nge c3 (by omega) (by omega)
          refine lv_aload_n hx hb dX3_prepare_49 rfl (lv_at hl 2 rfl) ?_
          refine va_get (D := g) (ci := 3) (v := .ref qs) (C := RX3) (T := TX3) (N := 13) hx hb hts hiX3 hown hK hP 1 rfl rfl 5 (by decide) (hts (.fieldLink RX3 28 "ShapeRelator$Figure" "partStarts" "[I") (List.mem_of_getElem? (i := 5) rfl)) (fun _ h9 => h9) rfl dX3_prepare_50 ?_
          refine lv_iload_n hx hb dX3_prepare_53 rfl (lv_at hl 1 rfl) ?_
          refine lv_iconst (v := 1) hx hb dX3_prepare_54 (by decide) ?_
          refine lv_iadd hx hb dX3_prepare_55 ?_
          refine tpi_ (y := (nI (i + 1))) ((nI_1 i).symm) ?_
          refine va_iald (D := g) hx hb hK hP 0 0 rfl rfl (vp_in_nI (show i + 1 < cp by omega) (by omega)) dX3_prepare_56 ?_
          refine tpi_ (y := (nI (sn (i + 1)))) (by rw [nI_clamp (by omega), (h6.1 (i + 1) q1).1]) ?_
          refine lv_goto (tgt := 64) hx hb dX3_prepare_57 (by decide) ?_
          exact J _ (by unfold pe_; rw [if_pos q1])
      · subst hv
        have e4 : pe_ sn pp nn i ≤ nn := pe_n h6
        refine lv_istore_n (lv' := [(3, .int (nI (pe_ sn pp nn i))), (2, .int (nI (sn i))), (1, .int (nI i)), (0, .ref fa)]) hx hb dX3_prepare_64 rfl hl (by decide) rfl (fun ls hl => ?_)
        refine lv_iload_n hx hb dX3_prepare_65 rfl (lv_at hl 1 rfl) ?_
        refine lv_iload_n hx hb dX3_prepare_66 rfl (lv_at hl 0 rfl) ?_
        refine lv_icmp_ge (tgt := 78) hx hb dX3_prepare_67 (by decide) (fun c3 => ?_) (fun c3 => ?_)
        · have q2 : pe_ sn pp nn i ≤ sn i := i_ge c3 (by omega) (by omega)
          have es : prS_ kd xs ys sn pp nn (i + 1) = prS_ kd xs ys sn pp nn i := by rw [prS_, if_neg (by omega)]
          have em : prM_ kd xs ys sn pp nn (i + 1) = prM_ kd xs ys sn pp nn i := by rw [prM_, if_neg (by omega)]
          rw [← es] at hP hD hi2
          rw [← em] at hP hD hi3
          have hP : va_P g vwCl [(qs, .inl (cI, cp, .inl st)), (fa, .inr (3, fg_ kd (nI pp) (nI nn) qx qy qs pr (nI (prS_ kd xs ys sn pp nn (i + 1)).length) qt1 qh1 (nI (prM_ kd xs ys sn pp nn (i + 1)).length) qm1 qd1)), (qx, .inl (cI, cx, .inl xs)), (qy, .inl (cI, cx, .inl ys)), (qt1, .inl (cI, ct1, .inl t1)), (qh1, .inl (cI, ct1, .inl u1)), (qm1, .inl (cI, ct1, .inl m1)), (qd1, .inl (cJ, ct1, .inr (.inl sd1)))] H := hP
          have hD : va_D A [(qs, .inl (cI, cp, .inl st)), (fa, .inr (3, fg_ kd (nI pp) (nI nn) qx qy qs pr (nI (prS_ kd xs ys sn pp nn (i + 1)).length) qt1 qh1 (nI (prM_ kd xs ys sn pp nn (i + 1)).length) qm1 qd1)), (qx, .inl (cI, cx, .inl xs)), (qy, .inl (cI, cx, .inl ys)), (qt1, .inl (cI, ct1, .inl t1)), (qh1, .inl (cI, ct1, .inl u1)), (qm1, .inl (cI, ct1, .inl m1)), (qd1, .inl (cJ, ct1, .inr (.inl sd1)))] := hD
          refine lv_iinc (v := (nI (i + 1))) (lv' := [(1, .int (nI (i + 1))), (3, .int (nI (pe_ sn pp nn i))), (2, .int (nI (sn i))), (0, .ref fa)]) hx hb dX3_prepare_78 hl (k := 2) rfl (nI_1 i) (by decide) rfl (fun ls hl => ?_)
          refine lv_goto (tgt := 24) hx hb dX3_prepare_81 (by decide) ?_
          exact ih (i + 1, t1, u1, m1) (by show pp - (i + 1) < pp - i; omega) H locs ls ⟨⟨e1, hi2, hi3⟩, hP, hD, hS, (lv_sub hl [0, 3] rfl)⟩
        · have q2 : sn i < pe_ sn pp nn i := i_nge c3 (by omega) (by omega)
          refine lv_aload_n hx hb dX3_prepare_70 rfl (lv_at hl 3 rfl) ?_
          refine lv_iload_n hx hb dX3_prepare_71 rfl (lv_at hl 1 rfl) ?_
          refine lv_iload_n hx hb dX3_prepare_72 rfl (lv_at hl 0 rfl) ?_
          refine lv_iconst (v := 1) hx hb dX3_prepare_73 (by decide) ?_
          refine lv_isub hx hb dX3_prepare_74 ?_
          refine tpi_ (y := (nI (pe_ sn pp nn i - 1))) ((pk_sub (a := pe_ sn pp nn i) (b := 1) (by omega)).symm) ?_
          have hPc := hP.sub (ws' := [(fa, .inr (3, fg_ kd (nI pp) (nI nn) qx qy qs pr (nI (prS_ kd xs ys sn pp nn i).length) qt1 qh1 (nI (prM_ kd xs ys sn pp nn i).length) qm1 qd1)), (qx, .inl (cI, cx, .inl xs)), (qy, .inl (cI, cx, .inl ys)), (qt1, .inl (cI, ct1, .inl t1)), (qh1, .inl (cI, ct1, .inl u1)), (qm1, .inl (cI, ct1, .inl m1))]) [1, 2, 3, 4, 5, 6] rfl
          have hDc := hD.sub (ws' := [(fa, .inr (3, fg_ kd (nI pp) (nI nn) qx qy qs pr (nI (prS_ kd xs ys sn pp nn i).length) qt1 qh1 (nI (prM_ kd xs ys sn pp nn i).length) qm1 qd1)), (qx, .inl (cI, cx, .inl xs)), (qy, .inl (cI, cx, .inl ys)), (qt1, .inl (cI, ct1, .inl t1)), (qh1, .inl (cI, ct1, .inl u1)), (qm1, .inl (cI, ct1, .inl m1))]) [1, 2, 3, 4, 5, 6] (by decide) rfl
          have hFc := va_free (wc := [(fa, .inr (3, fg_ kd (nI pp) (nI nn) qx qy qs pr (nI (prS_ kd xs ys sn pp nn i).length) qt1 qh1 (nI (prM_ kd xs ys sn pp nn i).length) qm1 qd1)), (qx, .inl (cI, cx, .inl xs)), (qy, .inl (cI, cx, .inl ys)), (qt1, .inl (cI, ct1, .inl t1)), (qh1, .inl (cI, ct1, .inl u1)), (qm1, .inl (cI, ct1, .inl m1))]) hD hS hA [1, 2, 3, 4, 5, 6] rfl
          refine va_callv (va_runV (As := [.int (nI (sn i)), .int (nI (pe_ sn pp nn i - 1))]) (rest := []) ⟨hx, hb, hml, hown, hts⟩ (kX3_preparePart l g cI cJ cZ H.size fa kd (nI pp) (nI nn) qx qy qs pr qt1 qh1 qm1 qd1 cx xs ys ct1 t1 u1 m1 (prS_ kd xs ys sn pp nn i) (prM_ kd xs ys sn pp nn i) (sn i) (pe_ sn pp nn i - 1) hc1.2.1 h2 (by omega) (by omega) hi2 hi3 (fun q hq => Nat.lt_of_lt_of_le (e3.2.2 q hq) h5) (by omega) e3.1 e3.2.1) (cwV 2 hts gX3_prepare_X3_preparePart rfl rfl rfl (by decide +kernel) ⟨Nat.le_of_ble_eq_true rfl, Nat.le_of_ble_eq_true rfl⟩) (pv_ hK hPc hDc (va_recv hK hPc (ci := 3) (q0 := 0) rfl rfl)) rfl rfl hl.1 rfl (lv_room (Nat.le_of_ble_eq_true rfl)) dX3_prepare_75 ⟨by show 4 + 0 ≤ 4; omega, by show 4 * cx + 0 ≤ 4 * cx; omega⟩) hS (fun q _ h => hFc q h) hFc (fun u t H1 locs ht hvm hw1 hB hz1 hk1 hS => ?_)
          obtain ⟨t2, u2, m2⟩ := u
          obtain ⟨hP1, hK1, hD1⟩ := hB
          rw [ht] at hP1
          dsimp only at hw1
          obtain ⟨hP, hD⟩ := va_join (wr := [(qs, .inl (cI, cp, .inl st)), (qd1, .inl (cJ, ct1, .inr (.inl sd1)))]) (w1 := [(fa, .inr (3, fg_ kd (nI pp) (nI nn) qx qy qs pr (nI (ppS_ kd xs ys (prS_ kd xs ys sn pp nn i) (sn i) (pe_ sn pp nn i - 1)).length) qt1 qh1 (nI (ppM_ kd xs ys (prM_ kd xs ys sn pp nn i) (sn i) (pe_ sn pp nn i - 1)).length) qm1 qd1)), (qx, .inl (cI, cx, .inl xs)), (qy, .inl (cI, cx, .inl ys)), (qt1, .inl (cI, ct1, .inl t2)), (qh1, .inl (cI, ct1, .inl u2)), (qm1, .inl (cI, ct1, .inl m2))]) hP hD [1, 2, 3, 4, 5, 6] [0, 7] rfl rfl (by decide) (by decide) hk1 hFc hP1 hD1
          clear hPc hDc hFc hP1 hD1 hK1 hk1 hz1 hvm ht
          generalize H1 = H at hP hS ⊢
          have hP : va_P g vwCl [(qs, .inl (cI, cp, .inl st)), (qd1, .inl (cJ, ct1, .inr (.inl sd1))), (fa, .inr (3, fg_ kd (nI pp) (nI nn) qx qy qs pr (nI (ppS_ kd xs ys (prS_ kd xs ys sn pp nn i) (sn i) (pe_ sn pp nn i - 1)).length) qt1 qh1 (nI (ppM_ kd xs ys (prM_ kd xs ys sn pp nn i) (sn i) (pe_ sn pp nn i - 1)).length) qm1 qd1)), (qx, .inl (cI, cx, .inl xs)), (qy, .inl (cI, cx, .inl ys)), (qt1, .inl (cI, ct1, .inl t2)), (qh1, .inl (cI, ct1, .inl u2)), (qm1, .inl (cI, ct1, .inl m2))] H := hP
          have hD : va_D A [(qs, .inl (cI, cp, .inl st)), (qd1, .inl (cJ, ct1, .inr (.inl sd1))), (fa, .inr (3, fg_ kd (nI pp) (nI nn) qx qy qs pr (nI (ppS_ kd xs ys (prS_ kd xs ys sn pp nn i) (sn i) (pe_ sn pp nn i - 1)).length) qt1 qh1 (nI (ppM_ kd xs ys (prM_ kd xs ys sn pp nn i) (sn i) (pe_ sn pp nn i - 1)).length) qm1 qd1)), (qx, .inl (cI, cx, .inl xs)), (qy, .inl (cI, cx, .inl ys)), (qt1, .inl (cI, ct1, .inl t2)), (qh1, .inl (cI, ct1, .inl u2)), (qm1, .inl (cI, ct1, .inl m2))] := hD
          have es : prS_ kd xs ys sn pp nn (i + 1) = ppS_ kd xs ys (prS_ kd xs ys sn pp nn i) (sn i) (pe_ sn pp nn i - 1) := by rw [prS_, if_pos q2]
          have em : prM_ kd xs ys sn pp nn (i + 1) = ppM_ kd xs ys (prM_ kd xs ys sn pp nn i) (sn i) (pe_ sn pp nn i - 1) := by rw [prM_, if_pos q2]
          rw [← es, ← em] at hP hD hw1
          have hP : va_P g vwCl [(qs, .inl (cI, cp, .inl st)), (qd1, .inl (cJ, ct1, .inr (.inl sd1))), (fa, .inr (3, fg_ kd (nI pp) (nI nn) qx qy qs pr (nI (prS_ kd xs ys sn pp nn (i + 1)).length) qt1 qh1 (nI (prM_ kd xs ys sn pp nn (i + 1)).length) qm1 qd1)), (qx, .inl (cI, cx, .inl xs)), (qy, .inl (cI, cx, .inl ys)), (qt1, .inl (cI, ct1, .inl t2)), (qh1, .inl (cI, ct1, .inl u2)), (qm1, .inl (cI, ct1, .inl m2))] H := hP
          have hD : va_D A [(qs, .inl (cI, cp, .inl st)), (qd1, .inl (cJ, ct1, .inr (.inl sd1))), (fa, .inr (3, fg_ kd (nI pp) (nI nn) qx qy qs pr (nI (prS_ kd xs ys sn pp nn (i + 1)).length) qt1 qh1 (nI (prM_ kd xs ys sn pp nn (i + 1)).length) qm1 qd1)), (qx, .inl (cI, cx, .inl xs)), (qy, .inl (cI, cx, .inl ys)), (qt1, .inl (cI, ct1, .inl t2)), (qh1, .inl (cI, ct1, .inl u2)), (qm1, .inl (cI, ct1, .inl m2))] := hD
          refine lv_iinc (v := (nI (i + 1))) (lv' := [(1, .int (nI (i + 1))), (3, .int (nI (pe_ sn pp nn i))), (2, .int (nI (sn i))), (0, .ref fa)]) hx hb dX3_prepare_78 hl (k := 2) rfl (nI_1 i) (by decide) rfl (fun ls hl => ?_)
          refine lv_goto (tgt := 24) hx hb dX3_prepare_81 (by decide) ?_
          exact ih (i + 1, t2, u2, m2) (by show pp - (i + 1) < pp - i; omega) H locs ls ⟨⟨e1, hw1.1, hw1.2⟩, (hP.sub [0, 2, 3, 4, 5, 6, 7, 1] rfl), (hD.sub [0, 2, 3, 4, 5, 6, 7, 1] (by decide) rfl), hS, (lv_sub hl [0, 3] rfl)⟩
  · rcases h7 with q0 | ⟨q1, q2, q3, q4, q5, q6⟩
    · exact absurd q0 c1
    subst q1; subst q3; subst q4
    refine W.widen (k := 4) (n := (4 * cx)) (by omega) (by omega) ?_
    have hP9 := hP.sub (ws' := [(fa, .inr (3, fg_ kd (nI pp) (nI nn) qx qy qs 1 (nI (prS_ kd xs ys sn pp nn pp).length) qt qh (nI (prM_ kd xs ys sn pp nn pp).length) qm qd)), (qx, .inl (cI, cx, .inl xs)), (qy, .inl (cI, cx, .inl ys)), (qs, .inl (cI, cp, .inl st)), (qt, .inl (cI, ct, .inl ta)), (qh, .inl (cI, ct, .inl he)), (qm, .inl (cI, ct, .inl ma)), (qd, .inl (cJ, ct, .inr (.inl sd)))]) [0, 1, 2, 3, 4, 5, 6, 7] rfl
    have hD9 := hD.sub (ws' := [(fa, .inr (3, fg_ kd (nI pp) (nI nn) qx qy qs 1 (nI (prS_ kd xs ys sn pp nn pp).length) qt qh (nI (prM_ kd xs ys sn pp nn pp).length) qm qd)), (qx, .inl (cI, cx, .inl xs)), (qy, .inl (cI, cx, .inl ys)), (qs, .inl (cI, cp, .inl st)), (qt, .inl (cI, ct, .inl ta)), (qh, .inl (cI, ct, .inl he)), (qm, .inl (cI, ct, .inl ma)), (qd, .inl (cJ, ct, .inr (.inl sd)))]) [0, 1, 2, 3, 4, 5, 6, 7] (by decide) rfl
    exact W.vret hx hb hr (fun t ht hW => ⟨⟨(ct, ta, he, ma, sd), rfl, ⟨q2, h1, Or.inl rfl, q5, q6⟩, qt, qh, qm, qd, by rw [ht]; exact hP9, va_K.moved hW.alike hK, hD9⟩, hS.F ht⟩) hS.2.2 dX3_prepare_7
end
