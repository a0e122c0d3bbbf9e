section
set_option maxHeartbeats 1000000 in
set_option maxRecDepth 100000 in
theorem kL_shape0 (l : Launch) (g : va_G) (cI cJ cZ : ClassId) (sz : Nat) (hlt : l.stackTraces = false) (ra0 : Nat) (fa : Nat) (fb : Nat) (oa : Nat) (kd : Int32) (pn : Int32) (pt : Int32) (qx : Nat) (qy : Nat) (qs : Nat) (pr : Int32) (sc : Int32) (qt : Nat) (qh : Nat) (mn : Int32) (qm : Nat) (qd : Nat) (k1 : Nat) (k2 : Nat) (ba : Nat) (ca : Nat) (qm0 : Nat) (fr : Int32) (kv : Int32) (ot : Nat) (ou : Nat → Int64)  : Met l yL_shape wsL_shape ({ frames := 8, cells := 2, slots := 12, locals := 127 }) (pce_ g cI cJ cZ [.ref ra0, .int 0, .int kv, .ref ot] [(ra0, .inr (5, sr_ fa fb oa)), (fa, .inr (3, fg_ kd pn pt qx qy qs pr sc qt qh mn qm qd)), (oa, .inr (4, ov_ k1 k2 ba ca qm0 fr)), (ot, .inl (cJ, 1, .inr (.inl ou)))] sz) (va_Qi (fun (r : Int32) (u : Int32 × Int32 × Int32 × Int32 × Int32 × (Nat → Int64)) => match u with | (kd9, pn9, pt9, pr9, fr9, ou9) => (¬ wi_ kv 1 3 = 0 → r = 0 ∧ kd9 = kv ∧ pn9 = 0 ∧ pt9 = 0 ∧ pr9 = 0 ∧ fr9 = 0 ∧ ou9 0 = pt.toInt64) ∧ (wi_ kv 1 3 = 0 → r = 2 ∧ kd9 = kd ∧ pn9 = pn ∧ pt9 = pt ∧ pr9 = pr ∧ fr9 = fr)) (fun (u : Int32 × Int32 × Int32 × Int32 × Int32 × (Nat → Int64)) t => match u with | (kd9, pn9, pt9, pr9, fr9, ou9) => wd_ g cI cJ cZ (va_A [(ra0, .inr (5, sr_ fa fb oa)), (fa, .inr (3, fg_ kd pn pt qx qy qs pr sc qt qh mn qm qd)), (oa, .inr (4, ov_ k1 k2 ba ca qm0 fr)), (ot, .inl (cJ, 1, .inr (.inl ou)))] sz) [(ra0, .inr (5, sr_ fa fb oa)), (fa, .inr (3, fg_ kd9 pn9 pt9 qx qy qs pr9 sc qt qh mn qm qd)), (oa, .inr (4, ov_ k1 k2 ba ca qm0 fr9)), (ot, .inl (cJ, 1, .inr (.inl ou9)))] t) (va_A [(ra0, .inr (5, sr_ fa fb oa)), (fa, .inr (3, fg_ kd pn pt qx qy qs pr sc qt qh mn qm qd)), (oa, .inr (4, ov_ k1 k2 ba ca qm0 fr)), (ot, .inl (cJ, 1, .inr (.inl ou)))] sz)) (2) (12) (va_A [(ra0, .inr (5, sr_ fa fb oa)), (fa, .inr (3, fg_ kd pn pt qx qy qs pr sc qt qh mn qm qd)), (oa, .inr (4, ov_ k1 k2 ba ca qm0 fr)), (ot, .inl (cJ, 1, .inr (.inl ou)))] sz) := by
  refine mo_ofWH (hh := [(0, 10, 13, 13), (0, 10, 17, 15)]) (cc := cL_shape) (maxL := 5) (ret := (some .int)) (by decide) rfl ?_
  intro p e s m args below meth c s₁ B hml hv
  obtain ⟨rfl, ⟨hsz, hP, hK, hD0⟩, hev⟩ := hv
  have hx := B.exec
  have hb := B.bytes
  have hr := B.returns
  have hts := atoms_spec (ws := wsL_shape) B.pre
  have hown : s.vm.findClass RL = some m.cls := findClass_of_methodNamed B.named
  have hlocks := B.notSynchronized
  have hT : c.exceptionTable.toList = tableOf [(0, 10, 13, 13), (0, 10, 17, 15)] := vx_table (x := yL_shape) B (hts _ List.mem_cons_self)
  subst hsz
  have hD := hD0.self (sz := s.heap.size)
  generalize hAe : va_A [(ra0, .inr (5, sr_ fa fb oa)), (fa, .inr (3, fg_ kd pn pt qx qy qs pr sc qt qh mn qm qd)), (oa, .inr (4, ov_ k1 k2 ba ca qm0 fr)), (ot, .inl (cJ, 1, .inr (.inl ou)))] s.heap.size = A at hD hev ⊢
  have hA : ∀ q : Nat, s.heap.size ≤ q → A q := fun q h => by rw [← hAe]; exact Or.inr h
  have hS : va_S A s.heap s.heap [] := va_S.rf
  have hP : va_P g vwCl [(ra0, .inr (5, sr_ fa fb oa)), (fa, .inr (3, fg_ kd pn pt qx qy qs pr sc qt qh mn qm qd)), (oa, .inr (4, ov_ k1 k2 ba ca qm0 fr)), (ot, .inl (cJ, 1, .inr (.inl ou)))] s.heap := hP
  have hl := lv_entry ([.ref ra0, .int 0, .int kv, .ref ot]) (n := 5) (Nat.le_of_ble_eq_true rfl)
  rw [lg_entry_eq]
  generalize (lg_sl ([.ref ra0, .int 0, .int kv, .ref ot]) ++ List.replicate (5 - (lg_sl ([.ref ra0, .int 0, .int kv, .ref ot])).length) Slot.unset).toArray = ls at hl ⊢
  have hl : lv_has ls 5 [(0, .ref ra0), (1, .int 0), (2, .int kv), (3, .ref ot)] := hl
  have hH0 : s.heap = s.heap := rfl
  refine lv_aload_n hx hb dL_shape_0 rfl (lv_at hl 3 rfl) ?_
  refine lv_iconst (v := 0) hx hb dL_shape_1 (by decide) ?_
  refine lv_aload_n hx hb dL_shape_2 rfl (lv_at hl 0 rfl) ?_
  refine lv_iload_n hx hb dL_shape_3 rfl (lv_at hl 1 rfl) ?_
  refine lv_iload_n hx hb dL_shape_4 rfl (lv_at hl 2 rfl) ?_
  have hPc := hP.sub (ws' := [(ra0, .inr (5, sr_ fa fb oa)), (fa, .inr (3, fg_ kd pn pt qx qy qs pr sc qt qh mn qm qd)), (oa, .inr (4, ov_ k1 k2 ba ca qm0 fr))]) [0, 1, 2] rfl
  have hDc := hD.sub (ws' := [(ra0, .inr (5, sr_ fa fb oa)), (fa, .inr (3, fg_ kd pn pt qx qy qs pr sc qt qh mn qm qd)), (oa, .inr (4, ov_ k1 k2 ba ca qm0 fr))]) [0, 1, 2] (by decide) rfl
  have hFc := va_free (wc := [(ra0, .inr (5, sr_ fa fb oa)), (fa, .inr (3, fg_ kd pn pt qx qy qs pr sc qt qh mn qm qd)), (oa, .inr (4, ov_ k1 k2 ba ca qm0 fr))]) hD hS hA [0, 1, 2] rfl
  refine vx_calli (vx_runV (As := [.int 0, .int kv]) (rest := [.int 0, .ref ot]) ⟨hx, hb, hml, hown, hts⟩ (kX5_shape0 l g cI cJ cZ s.heap.size hlt ra0 fa fb oa kd pn pt qx qy qs pr sc qt qh mn qm qd k1 k2 ba ca qm0 fr kv) (cwV 2 hts gL_shape_X5_shape rfl rfl rfl (by decide +kernel) ⟨Nat.le_of_ble_eq_true rfl, Nat.le_of_ble_eq_true rfl⟩) (pve_ hev hS hFc hK hPc hDc (va_recv hK hPc (ci := 5) (q0 := 0) rfl rfl)) rfl rfl hl.1 rfl (lv_room (Nat.le_of_ble_eq_true rfl)) dL_shape_5 ⟨by show 0 + 2 ≤ 2; omega, by show 0 + 12 ≤ 12; omega⟩) hS (fun q _ h => hFc q h) hFc (fun q _ h => hFc q h) (fun E ce q9 u t H1 locs ht hvm _ hBX hz1 hk1 hS hce hcv hcl => ?_) (fun r1 u t H1 locs ht hvm hw hB hz1 hk1 hS => ?_)
  · obtain ⟨hE, hP1, hK1, hD1⟩ := hBX
    rw [ht] at hP1
    obtain ⟨hP, hD⟩ := va_join (wr := [(ot, .inl (cJ, 1, .inr (.inl ou)))]) (w1 := [(ra0, .inr (5, sr_ fa fb oa)), (fa, .inr (3, fg_ kd pn pt qx qy qs pr sc qt qh mn qm qd)), (oa, .inr (4, ov_ k1 k2 ba ca qm0 fr))]) hP hD [0, 1, 2] [3] rfl rfl (by decide) (by decide) hk1 hFc hP1 hD1
    clear hPc hDc hFc hP1 hD1 hK1 hk1 hz1 hvm ht
    generalize H1 = H at hP hS hce ⊢
    have hP : va_P g vwCl [(ot, .inl (cJ, 1, .inr (.inl ou))), (ra0, .inr (5, sr_ fa fb oa)), (fa, .inr (3, fg_ kd pn pt qx qy qs pr sc qt qh mn qm qd)), (oa, .inr (4, ov_ k1 k2 ba ca qm0 fr))] H := hP
    have hD : va_D A [(ot, .inl (cJ, 1, .inr (.inl ou))), (ra0, .inr (5, sr_ fa fb oa)), (fa, .inr (3, fg_ kd pn pt qx qy qs pr sc qt qh mn qm qd)), (oa, .inr (4, ov_ k1 k2 ba ca qm0 fr))] := hD
    obtain ⟨rfl, hE⟩ := hE
    refine vx_catch hown [⟨0, 10, 13, 13⟩] ⟨0, 10, 17, 15⟩ [] hT (fun z hz => by
        rcases List.mem_cons.mp hz with rfl | hz
        · exact Or.inr ⟨by decide, "java/lang/IndexOutOfBoundsException", hts (.classLink RL 13 "java/lang/IndexOutOfBoundsException") (List.mem_of_getElem? (i := 1) rfl), hev.1.2.2.2.2.2.1⟩
        · exact absurd hz (by simp)) rfl (by decide) (hts (.classLink RL 15 "java/lang/IllegalArgumentException") (List.mem_of_getElem? (i := 2) rfl)) (va_Nw.use rfl (hev.1.1 _ (List.mem_of_getElem? (i := 1) rfl))) hce hcv hcl ?_
    show W p l e _ s m _ below meth c H locs (0 + 2) (0 + 12) _ (F0 m 17 ls [.ref q9])
    refine lv_astore (lv' := [(4, .ref q9), (0, .ref ra0), (1, .int 0), (2, .int kv), (3, .ref ot)]) hx hb dL_shape_17 hl (by decide) rfl (fun ls hl => ?_)
    refine lv_iconst (v := 2) hx hb dL_shape_19 (by decide) ?_
    refine W.widen (k := 2) (n := 12) (by omega) (by omega) ?_
    have hP9 := hP.sub (ws' := [(ra0, .inr (5, sr_ fa fb oa)), (fa, .inr (3, fg_ kd pn pt qx qy qs pr sc qt qh mn qm qd)), (oa, .inr (4, ov_ k1 k2 ba ca qm0 fr)), (ot, .inl (cJ, 1, .inr (.inl ou)))]) [1, 2, 3, 0] rfl
    have hD9 := hD.sub (ws' := [(ra0, .inr (5, sr_ fa fb oa)), (fa, .inr (3, fg_ kd pn pt qx qy qs pr sc qt qh mn qm qd)), (oa, .inr (4, ov_ k1 k2 ba ca qm0 fr)), (ot, .inl (cJ, 1, .inr (.inl ou)))]) [1, 2, 3, 0] (by decide) rfl
    exact W.iret (v := 2) hx hb hr (fun t ht hW => ⟨⟨2, (kd, pn, pt, pr, fr, ou), rfl, ⟨fun z => absurd hE z, fun _ => ⟨rfl, rfl, rfl, rfl, rfl, rfl⟩⟩, by rw [ht]; exact hP9, va_K.moved hW.alike hK, hD9⟩, hS.F ht⟩) hS.2.2 dL_shape_20
  · obtain ⟨hP1, hK1, hD1⟩ := hB
    rw [ht] at hP1
    obtain ⟨hP, hD⟩ := va_join (wr := [(ot, .inl (cJ, 1, .inr (.inl ou)))]) (w1 := [(ra0, .inr (5, sr_ fa fb oa)), (fa, .inr (3, fg_ kv 0 0 qx qy qs 0 sc qt qh mn qm qd)), (oa, .inr (4, ov_ k1 k2 ba ca qm0 0))]) hP hD [0, 1, 2] [3] rfl rfl (by decide) (by decide) hk1 hFc hP1 hD1
    clear hPc hDc hFc hP1 hD1 hK1 hk1 hz1 hvm ht
    generalize H1 = H at hP hS ⊢
    have hP : va_P g vwCl [(ot, .inl (cJ, 1, .inr (.inl ou))), (ra0, .inr (5, sr_ fa fb oa)), (fa, .inr (3, fg_ kv 0 0 qx qy qs 0 sc qt qh mn qm qd)), (oa, .inr (4, ov_ k1 k2 ba ca qm0 0))] H := hP
    have hD : va_D A [(ot, .inl (cJ, 1, .inr (.inl ou))), (ra0, .inr (5, sr_ fa fb oa)), (fa, .inr (3, fg_ kv 0 0 qx qy qs 0 sc qt qh mn qm qd)), (oa, .inr (4, ov_ k1 k2 ba ca qm0 0))] := hD
    refine lv_i2l hx hb dL_shape_8 rfl ?_
    refine va_last (D := g) hx hb hK hP hD hS 0 1 rfl rfl (by unfold vp_in; decide) dL_shape_9 (fun H locs hP hD hS => ?_)
    rw [show (0 : Int32).toNatClampNeg = 0 from rfl] at hP hD
    have hP : va_P g vwCl [(ot, .inl (cJ, 1, .inr (.inl (vp_updL ou 0 r1.toInt64)))), (ra0, .inr (5, sr_ fa fb oa)), (fa, .inr (3, fg_ kv 0 0 qx qy qs 0 sc qt qh mn qm qd)), (oa, .inr (4, ov_ k1 k2 ba ca qm0 0))] H := hP
    have hD : va_D A [(ot, .inl (cJ, 1, .inr (.inl (vp_updL ou 0 r1.toInt64)))), (ra0, .inr (5, sr_ fa fb oa)), (fa, .inr (3, fg_ kv 0 0 qx qy qs 0 sc qt qh mn qm qd)), (oa, .inr (4, ov_ k1 k2 ba ca qm0 0))] := hD
    refine lv_goto (tgt := 21) hx hb dL_shape_10 (by decide) ?_
    refine lv_iconst (v := 0) hx hb dL_shape_21 (by decide) ?_
    refine W.widen (k := 2) (n := 12) (by omega) (by omega) ?_
    have hP9 := hP.sub (ws' := [(ra0, .inr (5, sr_ fa fb oa)), (fa, .inr (3, fg_ kv 0 0 qx qy qs 0 sc qt qh mn qm qd)), (oa, .inr (4, ov_ k1 k2 ba ca qm0 0)), (ot, .inl (cJ, 1, .inr (.inl (vp_updL ou 0 r1.toInt64))))]) [1, 2, 3, 0] rfl
    have hD9 := hD.sub (ws' := [(ra0, .inr (5, sr_ fa fb oa)), (fa, .inr (3, fg_ kv 0 0 qx qy qs 0 sc qt qh mn qm qd)), (oa, .inr (4, ov_ k1 k2 ba ca qm0 0)), (ot, .inl (cJ, 1, .inr (.inl (vp_updL ou 0 r1.toInt64))))]) [1, 2, 3, 0] (by decide) rfl
    exact W.iret (v := 0) hx hb hr (fun t ht hW => ⟨⟨0, (kv, 0, 0, 0, 0, vp_updL ou 0 r1.toInt64), rfl, ⟨fun _ => ⟨rfl, rfl, rfl, rfl, rfl, rfl, by rw [pk_uLs, hw.2]⟩, fun z => absurd z hw.1⟩, by rw [ht]; exact hP9, va_K.moved hW.alike hK, hD9⟩, hS.F ht⟩) hS.2.2 dL_shape_22

set_option maxHeartbeats 1000000 in
set_option maxRecDepth 100000 in
theorem kL_part0 (l : Launch) (g : va_G) (cI cJ cZ : ClassId) (sz : Nat) (hlt : l.stackTraces = false) (ra0 : Nat) (fa : Nat) (fb : Nat) (oa : Nat) (kd : Int32) (pt : Int32) (qx : Nat) (qy : Nat) (qs : Nat) (pr : Int32) (sc : Int32) (qt : Nat) (qh : Nat) (mn : Int32) (qm : Nat) (qd : Nat) (cp : Nat) (st : Nat → Int32) (k : Nat) (ot : Nat) (ou : Nat → Int64) (g1 : cp < 100000) (g2 : k ≤ cp) (g0 : 16 ≤ cp) (hk : k < 1024) : Met l yL_part wsL_part ({ frames := 8, cells := 2, slots := 6 + 2 * cp, locals := 125 }) (pce_ g cI cJ cZ [.ref ra0, .int 0, .ref ot] [(ra0, .inr (5, sr_ fa fb oa)), (fa, .inr (3, fg_ kd (nI k) pt qx qy qs pr sc qt qh mn qm qd)), (qs, .inl (cI, cp, .inl st)), (ot, .inl (cJ, 1, .inr (.inl ou)))] sz) (va_Qi (fun (r : Int32) (u : (Nat → Int32) × (Nat → Int64)) => match u with | (st2, ou9) => r = 0 ∧ (∀ i, i < k → st2 i = st i) ∧ st2 k = pt ∧ ou9 0 = (nI (k + 1)).toInt64) (fun (u : (Nat → Int32) × (Nat → Int64)) t => match u with | (st2, ou9) => ∃ (qs2 : Nat), wd_ g cI cJ cZ (va_A [(ra0, .inr (5, sr_ fa fb oa)), (fa, .inr (3, fg_ kd (nI k) pt qx qy qs pr sc qt qh mn qm qd)), (qs, .inl (cI, cp, .inl st)), (ot, .inl (cJ, 1, .inr (.inl ou)))] sz) [(ra0, .inr (5, sr_ fa fb oa)), (fa, .inr (3, fg_ kd (nI (k + 1)) pt qx qy qs2 0 sc qt qh mn qm qd)), (qs2, .inl (cI, gcap_ k cp, .inl st2)), (ot, .inl (cJ, 1, .inr (.inl ou9)))] t) (va_A [(ra0, .inr (5, sr_ fa fb oa)), (fa, .inr (3, fg_ kd (nI k) pt qx qy qs pr sc qt qh mn qm qd)), (qs, .inl (cI, cp, .inl st)), (ot, .inl (cJ, 1, .inr (.inl ou)))] sz)) (2) (6 + 2 * cp) (va_A [(ra0, .inr (5, sr_ fa fb oa)), (fa, .inr (3, fg_ kd (nI k) pt qx qy qs pr sc qt qh mn qm qd)), (qs, .inl (cI, cp, .inl st)), (ot, .inl (cJ, 1, .inr (.inl ou)))] sz) := by
  refine mo_ofWH (hh := [(0, 9, 12, 13), (0, 9, 15, 21)]) (cc := cL_part) (maxL := 4) (ret := (some .int)) (by decide) rfl ?_
  intro p e s m args below meth c s₁ B hml hv
  obtain ⟨rfl, ⟨hsz, hP, hK, hD0⟩, hev⟩ := hv
  have hx := B.exec
  have hb := B.bytes
  have hr := B.returns
  have hts := atoms_spec (ws := wsL_part) B.pre
  have hown : s.vm.findClass RL = some m.cls := findClass_of_methodNamed B.named
  have hlocks := B.notSynchronized
  have hT : c.exceptionTable.toList = tableOf [(0, 9, 12, 13), (0, 9, 15, 21)] := vx_table (x := yL_part) B (hts _ List.mem_cons_self)
  subst hsz
  have hD := hD0.self (sz := s.heap.size)
  generalize hAe : va_A [(ra0, .inr (5, sr_ fa fb oa)), (fa, .inr (3, fg_ kd (nI k) pt qx qy qs pr sc qt qh mn qm qd)), (qs, .inl (cI, cp, .inl st)), (ot, .inl (cJ, 1, .inr (.inl ou)))] s.heap.size = A at hD hev ⊢
  have hA : ∀ q : Nat, s.heap.size ≤ q → A q := fun q h => by rw [← hAe]; exact Or.inr h
  have hS : va_S A s.heap s.heap [] := va_S.rf
  have hP : va_P g vwCl [(ra0, .inr (5, sr_ fa fb oa)), (fa, .inr (3, fg_ kd (nI k) pt qx qy qs pr sc qt qh mn qm qd)), (qs, .inl (cI, cp, .inl st)), (ot, .inl (cJ, 1, .inr (.inl ou)))] s.heap := hP
  have hl := lv_entry ([.ref ra0, .int 0, .ref ot]) (n := 4) (Nat.le_of_ble_eq_true rfl)
  rw [lg_entry_eq]
  generalize (lg_sl ([.ref ra0, .int 0, .ref ot]) ++ List.replicate (4 - (lg_sl ([.ref ra0, .int 0, .ref ot])).length) Slot.unset).toArray = ls at hl ⊢
  have hl : lv_has ls 4 [(0, .ref ra0), (1, .int 0), (2, .ref ot)] := hl
  have hH0 : s.heap = s.heap := rfl
  refine lv_aload_n hx hb dL_part_0 rfl (lv_at hl 2 rfl) ?_
  refine lv_iconst (v := 0) hx hb dL_part_1 (by decide) ?_
  refine lv_aload_n hx hb dL_part_2 rfl (lv_at hl 0 rfl) ?_
  refine lv_iload_n hx hb dL_part_3 rfl (lv_at hl 1 rfl) ?_
  have hPc := hP.sub (ws' := [(ra0, .inr (5, sr_ fa fb oa)), (fa, .inr (3, fg_ kd (nI k) pt qx qy qs pr sc qt qh mn qm qd)), (qs, .inl (cI, cp, .inl st))]) [0, 1, 2] rfl
  have hDc := hD.sub (ws' := [(ra0, .inr (5, sr_ fa fb oa)), (fa, .inr (3, fg_ kd (nI k) pt qx qy qs pr sc qt qh mn qm qd)), (qs, .inl (cI, cp, .inl st))]) [0, 1, 2] (by decide) rfl
  have hFc := va_free (wc := [(ra0, .inr (5, sr_ fa fb oa)), (fa, .inr (3, fg_ kd (nI k) pt qx qy qs pr sc qt qh mn qm qd)), (qs, .inl (cI, cp, .inl st))]) hD hS hA [0, 1, 2] rfl
  refine vx_calli (vx_runV (As := [.int 0]) (rest := [.int 0, .ref ot]) ⟨hx, hb, hml, hown, hts⟩ (kX5_part0 l g cI cJ cZ s.heap.size hlt ra0 fa fb oa kd pt qx qy qs pr sc qt qh mn qm qd cp st k g1 g2 g0) (cwV 1 hts gL_part_X5_part rfl rfl rfl (by decide +kernel) ⟨Nat.le_of_ble_eq_true rfl, Nat.le_of_ble_eq_true rfl⟩) (pve_ hev hS hFc hK hPc hDc (va_recv hK hPc (ci := 5) (q0 := 0) rfl rfl)) rfl rfl hl.1 rfl (lv_room (Nat.le_of_ble_eq_true rfl)) dL_part_4 ⟨by show 0 + 2 ≤ 2; omega, by show 0 + (6 + 2 * cp) ≤ 6 + 2 * cp; omega⟩) hS (fun q _ h => hFc q h) hFc (fun q _ h => hFc q h) (fun E ce q9 u t H1 locs ht hvm _ hBX hz1 hk1 hS hce hcv hcl => ?_) (fun r1 u t H1 locs ht hvm hw hB hz1 hk1 hS => ?_)
  · obtain ⟨hE, hP1, hK1, hD1⟩ := hBX
    rw [ht] at hP1
    obtain ⟨hP, hD⟩ := va_join (wr := [(ot, .inl (cJ, 1, .inr (.inl ou)))]) (w1 := [(ra0, .inr (5, sr_ fa fb oa)), (fa, .inr (3, fg_ kd (nI k) pt qx qy qs pr sc qt qh mn qm qd)), (qs, .inl (cI, cp, .inl st))]) hP hD [0, 1, 2] [3] rfl rfl (by decide) (by decide) hk1 hFc hP1 hD1
    clear hPc hDc hFc hP1 hD1 hK1 hk1 hz1 hvm ht
    generalize H1 = H at hP hS hce ⊢
    have hP : va_P g vwCl [(ot, .inl (cJ, 1, .inr (.inl ou))), (ra0, .inr (5, sr_ fa fb oa)), (fa, .inr (3, fg_ kd (nI k) pt qx qy qs pr sc qt qh mn qm qd)), (qs, .inl (cI, cp, .inl st))] H := hP
    have hD : va_D A [(ot, .inl (cJ, 1, .inr (.inl ou))), (ra0, .inr (5, sr_ fa fb oa)), (fa, .inr (3, fg_ kd (nI k) pt qx qy qs pr sc qt qh mn qm qd)), (qs, .inl (cI, cp, .inl st))] := hD
    exact absurd hk hE.2
  · obtain ⟨st3, rfl⟩ : ∃ z, z = u := ⟨_, rfl⟩
    obtain ⟨qs3, hP1, hK1, hD1⟩ := hB
    rw [ht] at hP1
    obtain ⟨hP, hD⟩ := va_join (wr := [(ot, .inl (cJ, 1, .inr (.inl ou)))]) (w1 := [(ra0, .inr (5, sr_ fa fb oa)), (fa, .inr (3, fg_ kd (nI (k + 1)) pt qx qy qs3 0 sc qt qh mn qm qd)), (qs3, .inl (cI, gcap_ k cp, .inl st3))]) hP hD [0, 1, 2] [3] rfl rfl (by decide) (by decide) hk1 hFc hP1 hD1
    clear hPc hDc hFc hP1 hD1 hK1 hk1 hz1 hvm ht
    generalize H1 = H at hP hS ⊢
    have hP : va_P g vwCl [(ot, .inl (cJ, 1, .inr (.inl ou))), (ra0, .inr (5, sr_ fa fb oa)), (fa, .inr (3, fg_ kd (nI (k + 1)) pt qx qy qs3 0 sc qt qh mn qm qd)), (qs3, .inl (cI, gcap_ k cp, .inl st3))] H := hP
    have hD : va_D A [(ot, .inl (cJ, 1, .inr (.inl ou))), (ra0, .inr (5, sr_ fa fb oa)), (fa, .inr (3, fg_ kd (nI (k + 1)) pt qx qy qs3 0 sc qt qh mn qm qd)), (qs3, .inl (cI, gcap_ k cp, .inl st3))] := hD
    refine lv_i2l hx hb dL_part_7 rfl ?_
    refine va_last (D := g) hx hb hK hP hD hS 0 1 rfl rfl (by unfold vp_in; decide) dL_part_8 (fun H locs hP hD hS => ?_)
    rw [show (0 : Int32).toNatClampNeg = 0 from rfl] at hP hD
    have hP : va_P g vwCl [(ot, .inl (cJ, 1, .inr (.inl (vp_updL ou 0 r1.toInt64)))), (ra0, .inr (5, sr_ fa fb oa)), (fa, .inr (3, fg_ kd (nI (k + 1)) pt qx qy qs3 0 sc qt qh mn qm qd)), (qs3, .inl (cI, gcap_ k cp, .inl st3))] H := hP
    have hD : va_D A [(ot, .inl (cJ, 1, .inr (.inl (vp_updL ou 0 r1.toInt64)))), (ra0, .inr (5, sr_ fa fb oa)), (fa, .inr (3, fg_ kd (nI (k + 1)) pt qx qy qs3 0 sc qt qh mn qm qd)), (qs3, .inl (cI, gcap_ k cp, .inl st3))] := hD
    refine lv_goto (tgt := 18) hx hb dL_part_9 (by decide) ?_
    refine lv_iconst (v := 0) hx hb dL_part_18 (by decide) ?_
    refine W.widen (k := 2) (n := (6 + 2 * cp)) (by omega) (by omega) ?_
    have hP9 := hP.sub (ws' := [(ra0, .inr (5, sr_ fa fb oa)), (fa, .inr (3, fg_ kd (nI (k + 1)) pt qx qy qs3 0 sc qt qh mn qm qd)), (qs3, .inl (cI, gcap_ k cp, .inl st3)), (ot, .inl (cJ, 1, .inr (.inl (vp_updL ou 0 r1.toInt64))))]) [1, 2, 3, 0] rfl
    have hD9 := hD.sub (ws' := [(ra0, .inr (5, sr_ fa fb oa)), (fa, .inr (3, fg_ kd (nI (k + 1)) pt qx qy qs3 0 sc qt qh mn qm qd)), (qs3, .inl (cI, gcap_ k cp, .inl st3)), (ot, .inl (cJ, 1, .inr (.inl (vp_updL ou 0 r1.toInt64))))]) [1, 2, 3, 0] (by decide) rfl
    exact W.iret (v := 0) hx hb hr (fun t ht hW => ⟨⟨0, (st3, vp_updL ou 0 r1.toInt64), rfl, ⟨rfl, hw.2.2.1, hw.2.2.2, by rw [pk_uLs, hw.2.1]⟩, qs3, by rw [ht]; exact hP9, va_K.moved hW.alike hK, hD9⟩, hS.F ht⟩) hS.2.2 dL_part_19

set_option maxHeartbeats 1000000 in
set_option maxRecDepth 100000 in
theorem kL_point0 (l : Launch) (g : va_G) (cI cJ cZ : ClassId) (sz : Nat) (hlt : l.stackTraces = false) (ra0 : Nat) (fa : Nat) (fb : Nat) (oa : Nat) (kd : Int32) (qx : Nat) (qy : Nat) (qs : Nat) (pr : Int32) (sc : Int32) (qt : Nat) (qh : Nat) (mn : Int32) (qm : Nat) (qd : Nat) (k1 : Nat) (k2 : Nat) (ba : Nat) (ca : Nat) (qm0 : Nat) (fr : Int32) (cx : Nat) (xs : Nat → Int32) (ys : Nat → Int32) (np : Nat) (k : Nat) (x1 : Int32) (y1 : Int32) (ot : Nat) (ou : Nat → Int64) (g1 : cx < 100000) (g2 : k ≤ cx) (g0 : 16 ≤ cx) (g3 : np < 100000) (hk : k < 2048) : Met l yL_point wsL_point ({ frames := 8, cells := 4, slots := 12 + 4 * cx, locals := 128 }) (pce_ g cI cJ cZ [.ref ra0, .int 0, .int x1, .int y1, .ref ot] [(ra0, .inr (5, sr_ fa fb oa)), (fa, .inr (3, fg_ kd (nI np) (nI k) qx qy qs pr sc qt qh mn qm qd)), (qx, .inl (cI, cx, .inl xs)), (qy, .inl (cI, cx, .inl ys)), (oa, .inr (4, ov_ k1 k2 ba ca qm0 fr)), (ot, .inl (cJ, 1, .inr (.inl ou)))] sz) (va_Qi (fun (r : Int32) (u : Nat × Nat × (Nat → Int32) × (Nat → Int32) × Int32 × Int32 × (Nat → Int64)) => match u with | (k9, cx9, xs9, ys9, pr9, fr9, ou9) => ((far_ x1 = 0 ∧ far_ y1 = 0 ∧ ¬ np = 0) → r = 0 ∧ k9 = k + 1 ∧ cx9 = gcap_ k cx ∧ (∀ i, i < k → xs9 i = xs i ∧ ys9 i = ys i) ∧ xs9 k = x1 ∧ ys9 k = y1 ∧ pr9 = 0 ∧ fr9 = 0 ∧ ou9 0 = (nI (k + 1)).toInt64) ∧ ((¬ far_ x1 = 0 ∨ ¬ far_ y1 = 0) → r = 2 ∧ k9 = k ∧ cx9 = cx ∧ xs9 = xs ∧ ys9 = ys ∧ pr9 = pr ∧ fr9 = fr) ∧ ((far_ x1 = 0 ∧ far_ y1 = 0 ∧ np = 0) → r = 3 ∧ k9 = k ∧ cx9 = cx ∧ xs9 = xs ∧ ys9 = ys ∧ pr9 = pr ∧ fr9 = fr)) (fun (u : Nat × Nat × (Nat → Int32) × (Nat → Int32) × Int32 × Int32 × (Nat → Int64)) t => match u with | (k9, cx9, xs9, ys9, pr9, fr9, ou9) => ∃ (qx9 : Nat) (qy9 : Nat), wd_ g cI cJ cZ (va_A [(ra0, .inr (5, sr_ fa fb oa)), (fa, .inr (3, fg_ kd (nI np) (nI k) qx qy qs pr sc qt qh mn qm qd)), (qx, .inl (cI, cx, .inl xs)), (qy, .inl (cI, cx, .inl ys)), (oa, .inr (4, ov_ k1 k2 ba ca qm0 fr)), (ot, .inl (cJ, 1, .inr (.inl ou)))] sz) [(ra0, .inr (5, sr_ fa fb oa)), (fa, .inr (3, fg_ kd (nI np) (nI k9) qx9 qy9 qs pr9 sc qt qh mn qm qd)), (qx9, .inl (cI, cx9, .inl xs9)), (qy9, .inl (cI, cx9, .inl ys9)), (oa, .inr (4, ov_ k1 k2 ba ca qm0 fr9)), (ot, .inl (cJ, 1, .inr (.inl ou9)))] t) (va_A [(ra0, .inr (5, sr_ fa fb oa)), (fa, .inr (3, fg_ kd (nI np) (nI k) qx qy qs pr sc qt qh mn qm qd)), (qx, .inl (cI, cx, .inl xs)), (qy, .inl (cI, cx, .inl ys)), (oa, .inr (4, ov_ k1 k2 ba ca qm0 fr)), (ot, .inl (cJ, 1, .inr (.inl ou)))] sz)) (4) (12 + 4 * cx) (va_A [(ra0, .inr (5, sr_ fa fb oa)), (fa, .inr (3, fg_ kd (nI np) (nI k) qx qy qs pr sc qt qh mn qm qd)), (qx, .inl (cI, cx, .inl xs)), (qy, .inl (cI, cx, .inl ys)), (oa, .inr (4, ov_ k1 k2 ba ca qm0 fr)), (ot, .inl (cJ, 1, .inr (.inl ou)))] sz) := by
  refine mo_ofWH (hh := [(0, 12, 15, 13), (0, 12, 19, 15), (0, 12, 23, 21)]) (cc := cL_point) (maxL := 6) (ret := (some .int)) (by decide) rfl ?_
  intro p e s m args below meth c s₁ B hml hv
  obtain ⟨rfl, ⟨hsz, hP, hK, hD0⟩, hev⟩ := hv
  have hx := B.exec
  have hb := B.bytes
  have hr := B.returns
  have hts := atoms_spec (ws := wsL_point) B.pre
  have hown : s.vm.findClass RL = some m.cls := findClass_of_methodNamed B.named
  have hlocks := B.notSynchronized
  have hT : c.exceptionTable.toList = tableOf [(0, 12, 15, 13), (0, 12, 19, 15), (0, 12, 23, 21)] := vx_table (x := yL_point) B (hts _ List.mem_cons_self)
  subst hsz
  have hD := hD0.self (sz := s.heap.size)
  generalize hAe : va_A [(ra0, .inr (5, sr_ fa fb oa)), (fa, .inr (3, fg_ kd (nI np) (nI k) qx qy qs pr sc qt qh mn qm qd)), (qx, .inl (cI, cx, .inl xs)), (qy, .inl (cI, cx, .inl ys)), (oa, .inr (4, ov_ k1 k2 ba ca qm0 fr)), (ot, .inl (cJ, 1, .inr (.inl ou)))] s.heap.size = A at hD hev ⊢
  have hA : ∀ q : Nat, s.heap.size ≤ q → A q := fun q h => by rw [← hAe]; exact Or.inr h
  have hS : va_S A s.heap s.heap [] := va_S.rf
  have hP : va_P g vwCl [(ra0, .inr (5, sr_ fa fb oa)), (fa, .inr (3, fg_ kd (nI np) (nI k) qx qy qs pr sc qt qh mn qm qd)), (qx, .inl (cI, cx, .inl xs)), (qy, .inl (cI, cx, .inl ys)), (oa, .inr (4, ov_ k1 k2 ba ca qm0 fr)), (ot, .inl (cJ, 1, .inr (.inl ou)))] s.heap := hP
  have hl := lv_entry ([.ref ra0, .int 0, .int x1, .int y1, .ref ot]) (n := 6) (Nat.le_of_ble_eq_true rfl)
  rw [lg_entry_eq]
  generalize (lg_sl ([.ref ra0, .int 0, .int x1, .int y1, .ref ot]) ++ List.replicate (6 - (lg_sl ([.ref ra0, .int 0, .int x1, .int y1, .ref ot])).length) Slot.unset).toArray = ls at hl ⊢
  have hl : lv_has ls 6 [(0, .ref ra0), (1, .int 0), (2, .int x1), (3, .int y1), (4, .ref ot)] := hl
  have hH0 : s.heap = s.heap := rfl
  refine lv_aload hx hb dL_point_0 (lv_at hl 4 rfl) ?_
  refine lv_iconst (v := 0) hx hb dL_point_2 (by decide) ?_
  refine lv_aload_n hx hb dL_point_3 rfl (lv_at hl 0 rfl) ?_
  refine lv_iload_n hx hb dL_point_4 rfl (lv_at hl 1 rfl) ?_
  refine lv_iload_n hx hb dL_point_5 rfl (lv_at hl 2 rfl) ?_
  refine lv_iload_n hx hb dL_point_6 rfl (lv_at hl 3 rfl) ?_
  have hPc := hP.sub (ws' := [(ra0, .inr (5, sr_ fa fb oa)), (fa, .inr (3, fg_ kd (nI np) (nI k) qx qy qs pr sc qt qh mn qm qd)), (qx, .inl (cI, cx, .inl xs)), (qy, .inl (cI, cx, .inl ys)), (oa, .inr (4, ov_ k1 k2 ba ca qm0 fr))]) [0, 1, 2, 3, 4] rfl
  have hDc := hD.sub (ws' := [(ra0, .inr (5, sr_ fa fb oa)), (fa, .inr (3, fg_ kd (nI np) (nI k) qx qy qs pr sc qt qh mn qm qd)), (qx, .inl (cI, cx, .inl xs)), (qy, .inl (cI, cx, .inl ys)), (oa, .inr (4, ov_ k1 k2 ba ca qm0 fr))]) [0, 1, 2, 3, 4] (by decide) rfl
  have hFc := va_free (wc := [(ra0, .inr (5, sr_ fa fb oa)), (fa, .inr (3, fg_ kd (nI np) (nI k) qx qy qs pr sc qt qh mn qm qd)), (qx, .inl (cI, cx, .inl xs)), (qy, .inl (cI, cx, .inl ys)), (oa, .inr (4, ov_ k1 k2 ba ca qm0 fr))]) hD hS hA [0, 1, 2, 3, 4] rfl
  refine vx_calli (vx_runV (As := [.int 0, .int x1, .int y1]) (rest := [.int 0, .ref ot]) ⟨hx, hb, hml, hown, hts⟩ (kX5_point0 l g cI cJ cZ s.heap.size hlt ra0 fa fb oa kd qx qy qs pr sc qt qh mn qm qd k1 k2 ba ca qm0 fr cx xs ys np k x1 y1 g1 g2 g0 g3) (cwV 3 hts gL_point_X5_point rfl rfl rfl (by decide +kernel) ⟨Nat.le_of_ble_eq_true rfl, Nat.le_of_ble_eq_true rfl⟩) (pve_ hev hS hFc hK hPc hDc (va_recv hK hPc (ci := 5) (q0 := 0) rfl rfl)) rfl rfl hl.1 rfl (lv_room (Nat.le_of_ble_eq_true rfl)) dL_point_7 ⟨by show 0 + 4 ≤ 4; omega, by show 0 + (12 + 4 * cx) ≤ 12 + 4 * cx; omega⟩) hS (fun q _ h => hFc q h) hFc (fun q _ h => hFc q h) (fun E ce q9 u t H1 locs ht hvm _ hBX hz1 hk1 hS hce hcv hcl => ?_) (fun r1 u t H1 locs ht hvm hw hB hz1 hk1 hS => ?_)
  · obtain ⟨hE, hP1, hK1, hD1⟩ := hBX
    rw [ht] at hP1
    obtain ⟨hP, hD⟩ := va_join (wr := [(ot, .inl (cJ, 1, .inr (.inl ou)))]) (w1 := [(ra0, .inr (5, sr_ fa fb oa)), (fa, .inr (3, fg_ kd (nI np) (nI k) qx qy qs pr sc qt qh mn qm qd)), (qx, .inl (cI, cx, .inl xs)), (qy, .inl (cI, cx, .inl ys)), (oa, .inr (4, ov_ k1 k2 ba ca qm0 fr))]) hP hD [0, 1, 2, 3, 4] [5] rfl rfl (by decide) (by decide) hk1 hFc hP1 hD1
    clear hPc hDc hFc hP1 hD1 hK1 hk1 hz1 hvm ht
    generalize H1 = H at hP hS hce ⊢
    have hP : va_P g vwCl [(ot, .inl (cJ, 1, .inr (.inl ou))), (ra0, .inr (5, sr_ fa fb oa)), (fa, .inr (3, fg_ kd (nI np) (nI k) qx qy qs pr sc qt qh mn qm qd)), (qx, .inl (cI, cx, .inl xs)), (qy, .inl (cI, cx, .inl ys)), (oa, .inr (4, ov_ k1 k2 ba ca qm0 fr))] H := hP
    have hD : va_D A [(ot, .inl (cJ, 1, .inr (.inl ou))), (ra0, .inr (5, sr_ fa fb oa)), (fa, .inr (3, fg_ kd (nI np) (nI k) qx qy qs pr sc qt qh mn qm qd)), (qx, .inl (cI, cx, .inl xs)), (qy, .inl (cI, cx, .inl ys)), (oa, .inr (4, ov_ k1 k2 ba ca qm0 fr))] := hD
    rcases hE with ⟨rfl, hE⟩ | ⟨rfl, hE⟩
    · refine vx_catch hown [⟨0, 12, 15, 13⟩] ⟨0, 12, 19, 15⟩ [⟨0, 12, 23, 21⟩] hT (fun z hz => by
          rcases List.mem_cons.mp hz with rfl | hz
          · exact Or.inr ⟨by decide, "java/lang/IndexOutOfBoundsException", hts (.classLink RL 13 "java/lang/IndexOutOfBoundsException") (List.mem_of_getElem? (i := 1) rfl), hev.1.2.2.2.2.2.1⟩
          · exact absurd hz (by simp)) rfl (by decide) (hts (.classLink RL 15 "java/lang/IllegalArgumentException") (List.mem_of_getElem? (i := 2) rfl)) (va_Nw.use rfl (hev.1.1 _ (List.mem_of_getElem? (i := 1) rfl))) hce hcv hcl ?_
      show W p l e _ s m _ below meth c H locs (0 + 4) (0 + (12 + 4 * cx)) _ (F0 m 19 ls [.ref q9])
      refine lv_astore (lv' := [(5, .ref q9), (0, .ref ra0), (1, .int 0), (2, .int x1), (3, .int y1), (4, .ref ot)]) hx hb dL_point_19 hl (by decide) rfl (fun ls hl => ?_)
      refine lv_iconst (v := 2) hx hb dL_point_21 (by decide) ?_
      refine W.widen (k := 4) (n := (12 + 4 * cx)) (by omega) (by omega) ?_
      have hP9 := hP.sub (ws' := [(ra0, .inr (5, sr_ fa fb oa)), (fa, .inr (3, fg_ kd (nI np) (nI k) qx qy qs pr sc qt qh mn qm qd)), (qx, .inl (cI, cx, .inl xs)), (qy, .inl (cI, cx, .inl ys)), (oa, .inr (4, ov_ k1 k2 ba ca qm0 fr)), (ot, .inl (cJ, 1, .inr (.inl ou)))]) [1, 2, 3, 4, 5, 0] rfl
      have hD9 := hD.sub (ws' := [(ra0, .inr (5, sr_ fa fb oa)), (fa, .inr (3, fg_ kd (nI np) (nI k) qx qy qs pr sc qt qh mn qm qd)), (qx, .inl (cI, cx, .inl xs)), (qy, .inl (cI, cx, .inl ys)), (oa, .inr (4, ov_ k1 k2 ba ca qm0 fr)), (ot, .inl (cJ, 1, .inr (.inl ou)))]) [1, 2, 3, 4, 5, 0] (by decide) rfl
      exact W.iret (v := 2) hx hb hr (fun t ht hW => ⟨⟨2, (k, cx, xs, ys, pr, fr, ou), rfl, ⟨fun z => absurd hE (fun w => w.elim (fun q => q z.1) (fun q => q z.2.1)), fun _ => ⟨rfl, rfl, rfl, rfl, rfl, rfl, rfl⟩, fun z => absurd hE (fun w => w.elim (fun q => q z.1) (fun q => q z.2.1))⟩, qx, qy, by rw [ht]; exact hP9, va_K.moved hW.alike hK, hD9⟩, hS.F ht⟩) hS.2.2 dL_point_22
    · refine vx_catch hown [⟨0, 12, 15, 13⟩, ⟨0, 12, 19, 15⟩] ⟨0, 12, 23, 21⟩ [] hT (fun z hz => by
          rcases List.mem_cons.mp hz with rfl | hz
          · exact Or.inr ⟨by decide, "java/lang/IndexOutOfBoundsException", hts (.classLink RL 13 "java/lang/IndexOutOfBoundsException") (List.mem_of_getElem? (i := 1) rfl), hev.1.2.2.2.2.2.2.1⟩
          rcases List.mem_cons.mp hz with rfl | hz
          · exact Or.inr ⟨by decide, "java/lang/IllegalArgumentException", hts (.classLink RL 15 "java/lang/IllegalArgumentException") (List.mem_of_getElem? (i := 2) rfl), hev.1.2.2.2.2.2.2.2⟩
          · exact absurd hz (by simp)) rfl (by decide) (hts (.classLink RL 21 "java/lang/IllegalStateException") (List.mem_of_getElem? (i := 3) rfl)) (va_Nw.use rfl (hev.1.1 _ (List.mem_of_getElem? (i := 2) rfl))) hce hcv hcl ?_
      show W p l e _ s m _ below meth c H locs (0 + 4) (0 + (12 + 4 * cx)) _ (F0 m 23 ls [.ref q9])
      refine lv_astore (lv' := [(5, .ref q9), (0, .ref ra0), (1, .int 0), (2, .int x1), (3, .int y1), (4, .ref ot)]) hx hb dL_point_23 hl (by decide) rfl (fun ls hl => ?_)
      refine lv_iconst (v := 3) hx hb dL_point_25 (by decide) ?_
      refine W.widen (k := 4) (n := (12 + 4 * cx)) (by omega) (by omega) ?_
      have hP9 := hP.sub (ws' := [(ra0, .inr (5, sr_ fa fb oa)), (fa, .inr (3, fg_ kd (nI np) (nI k) qx qy qs pr sc qt qh mn qm qd)), (qx, .inl (cI, cx, .inl xs)), (qy, .inl (cI, cx, .inl ys)), (oa, .inr (4, ov_ k1 k2 ba ca qm0 fr)), (ot, .inl (cJ, 1, .inr (.inl ou)))]) [1, 2, 3, 4, 5, 0] rfl
      have hD9 := hD.sub (ws' := [(ra0, .inr (5, sr_ fa fb oa)), (fa, .inr (3, fg_ kd (nI np) (nI k) qx qy qs pr sc qt qh mn qm qd)), (qx, .inl (cI, cx, .inl xs)), (qy, .inl (cI, cx, .inl ys)), (oa, .inr (4, ov_ k1 k2 ba ca qm0 fr)), (ot, .inl (cJ, 1, .inr (.inl ou)))]) [1, 2, 3, 4, 5, 0] (by decide) rfl
      exact W.iret (v := 3) hx hb hr (fun t ht hW => ⟨⟨3, (k, cx, xs, ys, pr, fr, ou), rfl, ⟨fun z => absurd hE.2.2 (fun w => w.elim z.2.2 (fun q => q hk)), fun z => absurd z (fun w => w.elim (fun q => q hE.1) (fun q => q hE.2.1)), fun _ => ⟨rfl, rfl, rfl, rfl, rfl, rfl, rfl⟩⟩, qx, qy, by rw [ht]; exact hP9, va_K.moved hW.alike hK, hD9⟩, hS.F ht⟩) hS.2.2 dL_point_26
  · obtain ⟨xs3, ys3⟩ := u
    obtain ⟨qx3, qy3, hP1, hK1, hD1⟩ := hB
    rw [ht] at hP1
    dsimp only at hw
    obtain ⟨hP, hD⟩ := va_join (wr := [(ot, .inl (cJ, 1, .inr (.inl ou)))]) (w1 := [(ra0, .inr (5, sr_ fa fb oa)), (fa, .inr (3, fg_ kd (nI np) (nI (k + 1)) qx3 qy3 qs 0 sc qt qh mn qm qd)), (qx3, .inl (cI, gcap_ k cx, .inl xs3)), (qy3, .inl (cI, gcap_ k cx, .inl ys3)), (oa, .inr (4, ov_ k1 k2 ba ca qm0 0))]) hP hD [0, 1, 2, 3, 4] [5] rfl rfl (by decide) (by decide) hk1 hFc hP1 hD1
    clear hPc hDc hFc hP1 hD1 hK1 hk1 hz1 hvm ht
    generalize H1 = H at hP hS ⊢
    have hP : va_P g vwCl [(ot, .inl (cJ, 1, .inr (.inl ou))), (ra0, .inr (5, sr_ fa fb oa)), (fa, .inr (3, fg_ kd (nI np) (nI (k + 1)) qx3 qy3 qs 0 sc qt qh mn qm qd)), (qx3, .inl (cI, gcap_ k cx, .inl xs3)), (qy3, .inl (cI, gcap_ k cx, .inl ys3)), (oa, .inr (4, ov_ k1 k2 ba ca qm0 0))] H := hP
    have hD : va_D A [(ot, .inl (cJ, 1, .inr (.inl ou))), (ra0, .inr (5, sr_ fa fb oa)), (fa, .inr (3, fg_ kd (nI np) (nI (k + 1)) qx3 qy3 qs 0 sc qt qh mn qm qd)), (qx3, .inl (cI, gcap_ k cx, .inl xs3)), (qy3, .inl (cI, gcap_ k cx, .inl ys3)), (oa, .inr (4, ov_ k1 k2 ba ca qm0 0))] := hD
    refine lv_i2l hx hb dL_point_10 rfl ?_
    refine va_last (D := g) hx hb hK hP hD hS 0 1 rfl rfl (by unfold vp_in; decide) dL_point_11 (fun H locs hP hD hS => ?_)
    rw [show (0 : Int32).toNatClampNeg = 0 from rfl] at hP hD
    have hP : va_P g vwCl [(ot, .inl (cJ, 1, .inr (.inl (vp_updL ou 0 r1.toInt64)))), (ra0, .inr (5, sr_ fa fb oa)), (fa, .inr (3, fg_ kd (nI np) (nI (k + 1)) qx3 qy3 qs 0 sc qt qh mn qm qd)), (qx3, .inl (cI, gcap_ k cx, .inl xs3)), (qy3, .inl (cI, gcap_ k cx, .inl ys3)), (oa, .inr (4, ov_ k1 k2 ba ca qm0 0))] H := hP
    have hD : va_D A [(ot, .inl (cJ, 1, .inr (.inl (vp_updL ou 0 r1.toInt64)))), (ra0, .inr (5, sr_ fa fb oa)), (fa, .inr (3, fg_ kd (nI np) (nI (k + 1)) qx3 qy3 qs 0 sc qt qh mn qm qd)), (qx3, .inl (cI, gcap_ k cx, .inl xs3)), (qy3, .inl (cI, gcap_ k cx, .inl ys3)), (oa, .inr (4, ov_ k1 k2 ba ca qm0 0))] := hD
    refine lv_goto (tgt := 27) hx hb dL_point_12 (by decide) ?_
    refine lv_iconst (v := 0) hx hb dL_point_27 (by decide) ?_
    refine W.widen (k := 4) (n := (12 + 4 * cx)) (by omega) (by omega) ?_
    have hP9 := hP.sub (ws' := [(ra0, .inr (5, sr_ fa fb oa)), (fa, .inr (3, fg_ kd (nI np) (nI (k + 1)) qx3 qy3 qs 0 sc qt qh mn qm qd)), (qx3, .inl (cI, (gcap_ k cx), .inl xs3)), (qy3, .inl (cI, (gcap_ k cx), .inl ys3)), (oa, .inr (4, ov_ k1 k2 ba ca qm0 0)), (ot, .inl (cJ, 1, .inr (.inl (vp_updL ou 0 r1.toInt64))))]) [1, 2, 3, 4, 5, 0] rfl
    have hD9 := hD.sub (ws' := [(ra0, .inr (5, sr_ fa fb oa)), (fa, .inr (3, fg_ kd (nI np) (nI (k + 1)) qx3 qy3 qs 0 sc qt qh mn qm qd)), (qx3, .inl (cI, (gcap_ k cx), .inl xs3)), (qy3, .inl (cI, (gcap_ k cx), .inl ys3)), (oa, .inr (4, ov_ k1 k2 ba ca qm0 0)), (ot, .inl (cJ, 1, .inr (.inl (vp_updL ou 0 r1.toInt64))))]) [1, 2, 3, 4, 5, 0] (by decide) rfl
    exact W.iret (v := 0) hx hb hr (fun t ht hW => ⟨⟨0, (k + 1, gcap_ k cx, xs3, ys3, 0, 0, vp_updL ou 0 r1.toInt64), rfl, ⟨fun _ => ⟨rfl, rfl, rfl, hw.2.2.1, hw.2.2.2.1, hw.2.2.2.2, rfl, rfl, by rw [pk_uLs, hw.2.1]⟩, fun z => z.elim (fun q => absurd hw.1.1 q) (fun q => absurd hw.1.2.1 q), fun z => absurd z.2.2 hw.1.2.2.1⟩, qx3, qy3, by rw [ht]; exact hP9, va_K.moved hW.alike hK, hD9⟩, hS.F ht⟩) hS.2.2 dL_point_28

set_option maxHeartbeats 1000000 in
set_option maxRecDepth 100000 in
theorem kL_count0 (l : Launch) (g : va_G) (cI cJ cZ : ClassId) (sz : Nat) (hlt : l.stackTraces = false) (ra0 : Nat) (fa : Nat) (fb : Nat) (oa : Nat) (kd : Int32) (pn : Int32) (pt : Int32) (qx : Nat) (qy : Nat) (qs : Nat) (pr : Int32) (sc : Int32) (qt : Nat) (qh : Nat) (mn : Int32) (qm : Nat) (qd : Nat) (wv : Int32) (ot : Nat) (ou : Nat → Int64)  : Met l yL_count wsL_count ({ frames := 8, cells := 2, slots := 12, locals := 126 }) (pce_ g cI cJ cZ [.ref ra0, .int 0, .int wv, .ref ot] [(ra0, .inr (5, sr_ fa fb oa)), (fa, .inr (3, fg_ kd pn pt qx qy qs pr sc qt qh mn qm qd)), (ot, .inl (cJ, 1, .inr (.inl ou)))] sz) (va_Qi (fun (r : Int32) (ou9 : (Nat → Int64)) => (¬ wi_ wv 0 2 = 0 → r = 0 ∧ ou9 0 = (if wv = 0 then kd else if wv = 1 then pn else pt).toInt64) ∧ (wi_ wv 0 2 = 0 → r = 1)) (fun (ou9 : (Nat → Int64)) t => wd_ g cI cJ cZ (va_A [(ra0, .inr (5, sr_ fa fb oa)), (fa, .inr (3, fg_ kd pn pt qx qy qs pr sc qt qh mn qm qd)), (ot, .inl (cJ, 1, .inr (.inl ou)))] sz) [(ra0, .inr (5, sr_ fa fb oa)), (fa, .inr (3, fg_ kd pn pt qx qy qs pr sc qt qh mn qm qd)), (ot, .inl (cJ, 1, .inr (.inl ou9)))] t) (va_A [(ra0, .inr (5, sr_ fa fb oa)), (fa, .inr (3, fg_ kd pn pt qx qy qs pr sc qt qh mn qm qd)), (ot, .inl (cJ, 1, .inr (.inl ou)))] sz)) (2) (12) (va_A [(ra0, .inr (5, sr_ fa fb oa)), (fa, .inr (3, fg_ kd pn pt qx qy qs pr sc qt qh mn qm qd)), (ot, .inl (cJ, 1, .inr (.inl ou)))] sz) := by
  refine mo_ofWH (hh := [(0, 10, 13, 13)]) (cc := cL_count) (maxL := 5) (ret := (some .int)) (by decide) rfl ?_
  intro p e s m args below meth c s₁ B hml hv
  obtain ⟨rfl, ⟨hsz, hP, hK, hD0⟩, hev⟩ := hv
  have hx := B.exec
  have hb := B.bytes
  have hr := B.returns
  have hts := atoms_spec (ws := wsL_count) B.pre
  have hown : s.vm.findClass RL = some m.cls := findClass_of_methodNamed B.named
  have hlocks := B.notSynchronized
  have hT : c.exceptionTable.toList = tableOf [(0, 10, 13, 13)] := vx_table (x := yL_count) B (hts _ List.mem_cons_self)
  subst hsz
  have hD := hD0.self (sz := s.heap.size)
  generalize hAe : va_A [(ra0, .inr (5, sr_ fa fb oa)), (fa, .inr (3, fg_ kd pn pt qx qy qs pr sc qt qh mn qm qd)), (ot, .inl (cJ, 1, .inr (.inl ou)))] s.heap.size = A at hD hev ⊢
  have hA : ∀ q : Nat, s.heap.size ≤ q → A q := fun q h => by rw [← hAe]; exact Or.inr h
  have hS : va_S A s.heap s.heap [] := va_S.rf
  have hP : va_P g vwCl [(ra0, .inr (5, sr_ fa fb oa)), (fa, .inr (3, fg_ kd pn pt qx qy qs pr sc qt qh mn qm qd)), (ot, .inl (cJ, 1, .inr (.inl ou)))] s.heap := hP
  have hl := lv_entry ([.ref ra0, .int 0, .int wv, .ref ot]) (n := 5) (Nat.le_of_ble_eq_true rfl)
  rw [lg_entry_eq]
  generalize (lg_sl ([.ref ra0, .int 0, .int wv, .ref ot]) ++ List.replicate (5 - (lg_sl ([.ref ra0, .int 0, .int wv, .ref ot])).length) Slot.unset).toArray = ls at hl ⊢
  have hl : lv_has ls 5 [(0, .ref ra0), (1, .int 0), (2, .int wv), (3, .ref ot)] := hl
  have hH0 : s.heap = s.heap := rfl
  refine lv_aload_n hx hb dL_count_0 rfl (lv_at hl 3 rfl) ?_
  refine lv_iconst (v := 0) hx hb dL_count_1 (by decide) ?_
  refine lv_aload_n hx hb dL_count_2 rfl (lv_at hl 0 rfl) ?_
  refine lv_iload_n hx hb dL_count_3 rfl (lv_at hl 1 rfl) ?_
  refine lv_iload_n hx hb dL_count_4 rfl (lv_at hl 2 rfl) ?_
  have hPc := hP.sub (ws' := [(ra0, .inr (5, sr_ fa fb oa)), (fa, .inr (3, fg_ kd pn pt qx qy qs pr sc qt qh mn qm qd))]) [0, 1] rfl
  have hDc := hD.sub (ws' := [(ra0, .inr (5, sr_ fa fb oa)), (fa, .inr (3, fg_ kd pn pt qx qy qs pr sc qt qh mn qm qd))]) [0, 1] (by decide) rfl
  have hFc := va_free (wc := [(ra0, .inr (5, sr_ fa fb oa)), (fa, .inr (3, fg_ kd pn pt qx qy qs pr sc qt qh mn qm qd))]) hD hS hA [0, 1] rfl
  refine vx_calli (vx_runV (As := [.int 0, .int wv]) (rest := [.int 0, .ref ot]) ⟨hx, hb, hml, hown, hts⟩ (kX5_count0 l g cI cJ cZ s.heap.size hlt ra0 fa fb oa kd pn pt qx qy qs pr sc qt qh mn qm qd wv) (cwV 2 hts gL_count_X5_count rfl rfl rfl (by decide +kernel) ⟨Nat.le_of_ble_eq_true rfl, Nat.le_of_ble_eq_true rfl⟩) (pve_ hev hS hFc hK hPc hDc (va_recv hK hPc (ci := 5) (q0 := 0) rfl rfl)) rfl rfl hl.1 rfl (lv_room (Nat.le_of_ble_eq_true rfl)) dL_count_5 ⟨by show 0 + 2 ≤ 2; omega, by show 0 + 12 ≤ 12; omega⟩) hS (fun q _ h => hFc q h) hFc (fun q _ h => hFc q h) (fun E ce q9 u t H1 locs ht hvm _ hBX hz1 hk1 hS hce hcv hcl => ?_) (fun r1 u t H1 locs ht hvm hw hB hz1 hk1 hS => ?_)
  · obtain ⟨hE, hP1, hK1, hD1⟩ := hBX
    rw [ht] at hP1
    obtain ⟨hP, hD⟩ := va_join (wr := [(ot, .inl (cJ, 1, .inr (.inl ou)))]) (w1 := [(ra0, .inr (5, sr_ fa fb oa)), (fa, .inr (3, fg_ kd pn pt qx qy qs pr sc qt qh mn qm qd))]) hP hD [0, 1] [2] rfl rfl (by decide) (by decide) hk1 hFc hP1 hD1
    clear hPc hDc hFc hP1 hD1 hK1 hk1 hz1 hvm ht
    generalize H1 = H at hP hS hce ⊢
    have hP : va_P g vwCl [(ot, .inl (cJ, 1, .inr (.inl ou))), (ra0, .inr (5, sr_ fa fb oa)), (fa, .inr (3, fg_ kd pn pt qx qy qs pr sc qt qh mn qm qd))] H := hP
    have hD : va_D A [(ot, .inl (cJ, 1, .inr (.inl ou))), (ra0, .inr (5, sr_ fa fb oa)), (fa, .inr (3, fg_ kd pn pt qx qy qs pr sc qt qh mn qm qd))] := hD
    obtain ⟨rfl, hE⟩ := hE
    refine vx_catch hown [] ⟨0, 10, 13, 13⟩ [] hT (fun z hz => absurd hz (by simp)) rfl (by decide) (hts (.classLink RL 13 "java/lang/IndexOutOfBoundsException") (List.mem_of_getElem? (i := 1) rfl)) (va_Nw.use rfl (hev.1.1 _ (List.mem_of_getElem? (i := 0) rfl))) hce hcv hcl ?_
    show W p l e _ s m _ below meth c H locs (0 + 2) (0 + 12) _ (F0 m 13 ls [.ref q9])
    refine lv_astore (lv' := [(4, .ref q9), (0, .ref ra0), (1, .int 0), (2, .int wv), (3, .ref ot)]) hx hb dL_count_13 hl (by decide) rfl (fun ls hl => ?_)
    refine lv_iconst (v := 1) hx hb dL_count_15 (by decide) ?_
    refine W.widen (k := 2) (n := 12) (by omega) (by omega) ?_
    have hP9 := hP.sub (ws' := [(ra0, .inr (5, sr_ fa fb oa)), (fa, .inr (3, fg_ kd pn pt qx qy qs pr sc qt qh mn qm qd)), (ot, .inl (cJ, 1, .inr (.inl ou)))]) [1, 2, 0] rfl
    have hD9 := hD.sub (ws' := [(ra0, .inr (5, sr_ fa fb oa)), (fa, .inr (3, fg_ kd pn pt qx qy qs pr sc qt qh mn qm qd)), (ot, .inl (cJ, 1, .inr (.inl ou)))]) [1, 2, 0] (by decide) rfl
    exact W.iret (v := 1) hx hb hr (fun t ht hW => ⟨⟨1, ou, rfl, ⟨fun z => absurd hE z, fun _ => rfl⟩, by rw [ht]; exact hP9, va_K.moved hW.alike hK, hD9⟩, hS.F ht⟩) hS.2.2 dL_count_16
  · obtain ⟨hP1, hK1, hD1⟩ := hB
    rw [ht] at hP1
    obtain ⟨hP, hD⟩ := va_join (wr := [(ot, .inl (cJ, 1, .inr (.inl ou)))]) (w1 := [(ra0, .inr (5, sr_ fa fb oa)), (fa, .inr (3, fg_ kd pn pt qx qy qs pr sc qt qh mn qm qd))]) hP hD [0, 1] [2] rfl rfl (by decide) (by decide) hk1 hFc hP1 hD1
    clear hPc hDc hFc hP1 hD1 hK1 hk1 hz1 hvm ht
    generalize H1 = H at hP hS ⊢
    have hP : va_P g vwCl [(ot, .inl (cJ, 1, .inr (.inl ou))), (ra0, .inr (5, sr_ fa fb oa)), (fa, .inr (3, fg_ kd pn pt qx qy qs pr sc qt qh mn qm qd))] H := hP
    have hD : va_D A [(ot, .inl (cJ, 1, .inr (.inl ou))), (ra0, .inr (5, sr_ fa fb oa)), (fa, .inr (3, fg_ kd pn pt qx qy qs pr sc qt qh mn qm qd))] := hD
    refine lv_i2l hx hb dL_count_8 rfl ?_
    refine va_last (D := g) hx hb hK hP hD hS 0 1 rfl rfl (by unfold vp_in; decide) dL_count_9 (fun H locs hP hD hS => ?_)
    rw [show (0 : Int32).toNatClampNeg = 0 from rfl] at hP hD
    have hP : va_P g vwCl [(ot, .inl (cJ, 1, .inr (.inl (vp_updL ou 0 r1.toInt64)))), (ra0, .inr (5, sr_ fa fb oa)), (fa, .inr (3, fg_ kd pn pt qx qy qs pr sc qt qh mn qm qd))] H := hP
    have hD : va_D A [(ot, .inl (cJ, 1, .inr (.inl (vp_updL ou 0 r1.toInt64)))), (ra0, .inr (5, sr_ fa fb oa)), (fa, .inr (3, fg_ kd pn pt qx qy qs pr sc qt qh mn qm qd))] := hD
    refine lv_goto (tgt := 17) hx hb dL_count_10 (by decide) ?_
    refine lv_iconst (v := 0) hx hb dL_count_17 (by decide) ?_
    refine W.widen (k := 2) (n := 12) (by omega) (by omega) ?_
    have hP9 := hP.sub (ws' := [(ra0, .inr (5, sr_ fa fb oa)), (fa, .inr (3, fg_ kd pn pt qx qy qs pr sc qt qh mn qm qd)), (ot, .inl (cJ, 1, .inr (.inl (vp_updL ou 0 r1.toInt64))))]) [1, 2, 0] rfl
    have hD9 := hD.sub (ws' := [(ra0, .inr (5, sr_ fa fb oa)), (fa, .inr (3, fg_ kd pn pt qx qy qs pr sc qt qh mn qm qd)), (ot, .inl (cJ, 1, .inr (.inl (vp_updL ou 0 r1.toInt64))))]) [1, 2, 0] (by decide) rfl
    exact W.iret (v := 0) hx hb hr (fun t ht hW => ⟨⟨0, vp_updL ou 0 r1.toInt64, rfl, ⟨fun _ => ⟨rfl, by rw [pk_uLs, hw.2]⟩, fun z => absurd z hw.1⟩, by rw [ht]; exact hP9, va_K.moved hW.alike hK, hD9⟩, hS.F ht⟩) hS.2.2 dL_count_18

set_option maxHeartbeats 1000000 in
set_option maxRecDepth 100000 in
theorem kL_locate0 (l : Launch) (g : va_G) (cI cJ cZ : ClassId) (sz : Nat) (hlt : l.stackTraces = false) (ra0 : Nat) (fa : Nat) (fb : Nat) (oa : Nat) (kd1 : Int32) (pp1 : Nat) (nn1 : Nat) (qx1 : Nat) (qy1 : Nat) (qs1 : Nat) (pr1 : Int32) (sc1 : Int32) (qt1 : Nat) (qh1 : Nat) (mn1 : Int32) (qm1 : Nat) (qd1 : Nat) (cx1 : Nat) (xs1 : Nat → Int32) (ys1 : Nat → Int32) (cp1 : Nat) (st1 : Nat → Int32) (ct1 : Nat) (ta1 : Nat → Int32) (he1 : Nat → Int32) (ma1 : Nat → Int32) (sd1 : Nat → Int64) (sn1 : Nat → Nat) (x1 : Int32) (y1 : Int32) (ot : Nat) (ou : Nat → Int64) (ha1 : ct1 < 100000) (hb1 : cx1 < 100000) (hj1 : cp1 < 100000) (hd1 : pp1 ≤ cp1) (he01 : nn1 ≤ cx1) (hf1 : sta_ sn1 pp1 nn1 st1) (hg1 : pr1 = 0 ∨ (pr1 = 1 ∧ cx1 ≤ ct1 ∧ sc1 = nI (prS_ kd1 xs1 ys1 sn1 pp1 nn1 pp1).length ∧ mn1 = nI (prM_ kd1 xs1 ys1 sn1 pp1 nn1 pp1).length ∧ sl_ ta1 he1 (prS_ kd1 xs1 ys1 sn1 pp1 nn1 pp1) ∧ al_ ma1 (prM_ kd1 xs1 ys1 sn1 pp1 nn1 pp1))) (hk1 : nn1 < 2000) (g0 : 16 ≤ cx1) : Met l yL_locate wsL_locate ({ frames := 8, cells := 6, slots := 12 + 4 * cx1, locals := 127 }) (pce_ g cI cJ cZ [.ref ra0, .int 0, .int x1, .int y1, .ref ot] [(ra0, .inr (5, sr_ fa fb oa)), (fa, .inr (3, fg_ kd1 (nI pp1) (nI nn1) qx1 qy1 qs1 pr1 sc1 qt1 qh1 mn1 qm1 qd1)), (qx1, .inl (cI, cx1, .inl xs1)), (qy1, .inl (cI, cx1, .inl ys1)), (qs1, .inl (cI, cp1, .inl st1)), (qt1, .inl (cI, ct1, .inl ta1)), (qh1, .inl (cI, ct1, .inl he1)), (qm1, .inl (cI, ct1, .inl ma1)), (qd1, .inl (cJ, ct1, .inr (.inl sd1))), (ot, .inl (cJ, 1, .inr (.inl ou)))] sz) (va_Qi (fun (r : Int32) (u : Nat × (Nat → Int32) × (Nat → Int32) × (Nat → Int32) × (Nat → Int64) × Int32 × Int32 × Int32 × (Nat → Int64)) => match u with | (ct9, ta9, he9, ma9, sd9, pr9, sc9, mn9, ou9) => ((far_ x1 = 0 ∧ far_ y1 = 0) → r = 0 ∧ ou9 0 = (whs_ kd1 xs1 ys1 (prS_ kd1 xs1 ys1 sn1 pp1 nn1 pp1) (prM_ kd1 xs1 ys1 sn1 pp1 nn1 pp1) x1 y1).toInt64) ∧ ((¬ far_ x1 = 0 ∨ ¬ far_ y1 = 0) → r = 2) ∧ (ct9 = ct1 ∨ ct9 = cx1) ∧ (pr9 = 0 ∨ (pr9 = 1 ∧ cx1 ≤ ct9 ∧ sc9 = nI (prS_ kd1 xs1 ys1 sn1 pp1 nn1 pp1).length ∧ mn9 = nI (prM_ kd1 xs1 ys1 sn1 pp1 nn1 pp1).length ∧ sl_ ta9 he9 (prS_ kd1 xs1 ys1 sn1 pp1 nn1 pp1) ∧ al_ ma9 (prM_ kd1 xs1 ys1 sn1 pp1 nn1 pp1)))) (fun (u : Nat × (Nat → Int32) × (Nat → Int32) × (Nat → Int32) × (Nat → Int64) × Int32 × Int32 × Int32 × (Nat → Int64)) t => match u with | (ct9, ta9, he9, ma9, sd9, pr9, sc9, mn9, ou9) => ∃ (qt9 : Nat) (qh9 : Nat) (qm9 : Nat) (qd9 : Nat), wd_ g cI cJ cZ (va_A [(ra0, .inr (5, sr_ fa fb oa)), (fa, .inr (3, fg_ kd1 (nI pp1) (nI nn1) qx1 qy1 qs1 pr1 sc1 qt1 qh1 mn1 qm1 qd1)), (qx1, .inl (cI, cx1, .inl xs1)), (qy1, .inl (cI, cx1, .inl ys1)), (qs1, .inl (cI, cp1, .inl st1)), (qt1, .inl (cI, ct1, .inl ta1)), (qh1, .inl (cI, ct1, .inl he1)), (qm1, .inl (cI, ct1, .inl ma1)), (qd1, .inl (cJ, ct1, .inr (.inl sd1))), (ot, .inl (cJ, 1, .inr (.inl ou)))] sz) [(ra0, .inr (5, sr_ fa fb oa)), (fa, .inr (3, fg_ kd1 (nI pp1) (nI nn1) qx1 qy1 qs1 pr9 sc9 qt9 qh9 mn9 qm9 qd9)), (qx1, .inl (cI, cx1, .inl xs1)), (qy1, .inl (cI, cx1, .inl ys1)), (qs1, .inl (cI, cp1, .inl st1)), (qt9, .inl (cI, ct9, .inl ta9)), (qh9, .inl (cI, ct9, .inl he9)), (qm9, .inl (cI, ct9, .inl ma9)), (qd9, .inl (cJ, ct9, .inr (.inl sd9))), (ot, .inl (cJ, 1, .inr (.inl ou9)))] t) (va_A [(ra0, .inr (5, sr_ fa fb oa)), (fa, .inr (3, fg_ kd1 (nI pp1) (nI nn1) qx1 qy1 qs1 pr1 sc1 qt1 qh1 mn1 qm1 qd1)), (qx1, .inl (cI, cx1, .inl xs1)), (qy1, .inl (cI, cx1, .inl ys1)), (qs1, .inl (cI, cp1, .inl st1)), (qt1, .inl (cI, ct1, .inl ta1)), (qh1, .inl (cI, ct1, .inl he1)), (qm1, .inl (cI, ct1, .inl ma1)), (qd1, .inl (cJ, ct1, .inr (.inl sd1))), (ot, .inl (cJ, 1, .inr (.inl ou)))] sz)) (6) (12 + 4 * cx1) (va_A [(ra0, .inr (5, sr_ fa fb oa)), (fa, .inr (3, fg_ kd1 (nI pp1) (nI nn1) qx1 qy1 qs1 pr1 sc1 qt1 qh1 mn1 qm1 qd1)), (qx1, .inl (cI, cx1, .inl xs1)), (qy1, .inl (cI, cx1, .inl ys1)), (qs1, .inl (cI, cp1, .inl st1)), (qt1, .inl (cI, ct1, .inl ta1)), (qh1, .inl (cI, ct1, .inl he1)), (qm1, .inl (cI, ct1, .inl ma1)), (qd1, .inl (cJ, ct1, .inr (.inl sd1))), (ot, .inl (cJ, 1, .inr (.inl ou)))] sz) := by
  refine mo_ofWH (hh := [(0, 12, 15, 13), (0, 12, 19, 15)]) (cc := cL_locate) (maxL := 6) (ret := (some .int)) (by decide) rfl ?_
  intro p e s m args below meth c s₁ B hml hv
  obtain ⟨rfl, ⟨hsz, hP, hK, hD0⟩, hev⟩ := hv
  have hx := B.exec
  have hb := B.bytes
  have hr := B.returns
  have hts := atoms_spec (ws := wsL_locate) B.pre
  have hown : s.vm.findClass RL = some m.cls := findClass_of_methodNamed B.named
  have hlocks := B.notSynchronized
  have hT : c.exceptionTable.toList = tableOf [(0, 12, 15, 13), (0, 12, 19, 15)] := vx_table (x := yL_locate) B (hts _ List.mem_cons_self)
  subst hsz
  have hD := hD0.self (sz := s.heap.size)
  generalize hAe : va_A [(ra0, .inr (5, sr_ fa fb oa)), (fa, .inr (3, fg_ kd1 (nI pp1) (nI nn1) qx1 qy1 qs1 pr1 sc1 qt1 qh1 mn1 qm1 qd1)), (qx1, .inl (cI, cx1, .inl xs1)), (qy1, .inl (cI, cx1, .inl ys1)), (qs1, .inl (cI, cp1, .inl st1)), (qt1, .inl (cI, ct1, .inl ta1)), (qh1, .inl (cI, ct1, .inl he1)), (qm1, .inl (cI, ct1, .inl ma1)), (qd1, .inl (cJ, ct1, .inr (.inl sd1))), (ot, .inl (cJ, 1, .inr (.inl ou)))] s.heap.size = A at hD hev ⊢
  have hA : ∀ q : Nat, s.heap.size ≤ q → A q := fun q h => by rw [← hAe]; exact Or.inr h
  have hS : va_S A s.heap s.heap [] := va_S.rf
  have hP : va_P g vwCl [(ra0, .inr (5, sr_ fa fb oa)), (fa, .inr (3, fg_ kd1 (nI pp1) (nI nn1) qx1 qy1 qs1 pr1 sc1 qt1 qh1 mn1 qm1 qd1)), (qx1, .inl (cI, cx1, .inl xs1)), (qy1, .inl (cI, cx1, .inl ys1)), (qs1, .inl (cI, cp1, .inl st1)), (qt1, .inl (cI, ct1, .inl ta1)), (qh1, .inl (cI, ct1, .inl he1)), (qm1, .inl (cI, ct1, .inl ma1)), (qd1, .inl (cJ, ct1, .inr (.inl sd1))), (ot, .inl (cJ, 1, .inr (.inl ou)))] s.heap := hP
  have hl := lv_entry ([.ref ra0, .int 0, .int x1, .int y1, .ref ot]) (n := 6) (Nat.le_of_ble_eq_true rfl)
  rw [lg_entry_eq]
  generalize (lg_sl ([.ref ra0, .int 0, .int x1, .int y1, .ref ot]) ++ List.replicate (6 - (lg_sl ([.ref ra0, .int 0, .int x1, .int y1, .ref ot])).length) Slot.unset).toArray = ls at hl ⊢
  have hl : lv_has ls 6 [(0, .ref ra0), (1, .int 0), (2, .int x1), (3, .int y1), (4, .ref ot)] := hl
  have hH0 : s.heap = s.heap := rfl
  refine lv_aload hx hb dL_locate_0 (lv_at hl 4 rfl) ?_
  refine lv_iconst (v := 0) hx hb dL_locate_2 (by decide) ?_
  refine lv_aload_n hx hb dL_locate_3 rfl (lv_at hl 0 rfl) ?_
  refine lv_iload_n hx hb dL_locate_4 rfl (lv_at hl 1 rfl) ?_
  refine lv_iload_n hx hb dL_locate_5 rfl (lv_at hl 2 rfl) ?_
  refine lv_iload_n hx hb dL_locate_6 rfl (lv_at hl 3 rfl) ?_
  have hPc := hP.sub (ws' := [(ra0, .inr (5, sr_ fa fb oa)), (fa, .inr (3, fg_ kd1 (nI pp1) (nI nn1) qx1 qy1 qs1 pr1 sc1 qt1 qh1 mn1 qm1 qd1)), (qx1, .inl (cI, cx1, .inl xs1)), (qy1, .inl (cI, cx1, .inl ys1)), (qs1, .inl (cI, cp1, .inl st1)), (qt1, .inl (cI, ct1, .inl ta1)), (qh1, .inl (cI, ct1, .inl he1)), (qm1, .inl (cI, ct1, .inl ma1)), (qd1, .inl (cJ, ct1, .inr (.inl sd1)))]) [0, 1, 2, 3, 4, 5, 6, 7, 8] rfl
  have hDc := hD.sub (ws' := [(ra0, .inr (5, sr_ fa fb oa)), (fa, .inr (3, fg_ kd1 (nI pp1) (nI nn1) qx1 qy1 qs1 pr1 sc1 qt1 qh1 mn1 qm1 qd1)), (qx1, .inl (cI, cx1, .inl xs1)), (qy1, .inl (cI, cx1, .inl ys1)), (qs1, .inl (cI, cp1, .inl st1)), (qt1, .inl (cI, ct1, .inl ta1)), (qh1, .inl (cI, ct1, .inl he1)), (qm1, .inl (cI, ct1, .inl ma1)), (qd1, .inl (cJ, ct1, .inr (.inl sd1)))]) [0, 1, 2, 3, 4, 5, 6, 7, 8] (by decide) rfl
  have hFc := va_free (wc := [(ra0, .inr (5, sr_ fa fb oa)), (fa, .inr (3, fg_ kd1 (nI pp1) (nI nn1) qx1 qy1 qs1 pr1 sc1 qt1 qh1 mn1 qm1 qd1)), (qx1, .inl (cI, cx1, .inl xs1)), (qy1, .inl (cI, cx1, .inl ys1)), (qs1, .inl (cI, cp1, .inl st1)), (qt1, .inl (cI, ct1, .inl ta1)), (qh1, .inl (cI, ct1, .inl he1)), (qm1, .inl (cI, ct1, .inl ma1)), (qd1, .inl (cJ, ct1, .inr (.inl sd1)))]) hD hS hA [0, 1, 2, 3, 4, 5, 6, 7, 8] rfl
  refine vx_calli (vx_runV (As := [.int 0, .int x1, .int y1]) (rest := [.int 0, .ref ot]) ⟨hx, hb, hml, hown, hts⟩ (kX5_locate0 l g cI cJ cZ s.heap.size hlt ra0 fa fb oa kd1 pp1 nn1 qx1 qy1 qs1 pr1 sc1 qt1 qh1 mn1 qm1 qd1 cx1 xs1 ys1 cp1 st1 ct1 ta1 he1 ma1 sd1 sn1 x1 y1 ha1 hb1 hj1 hd1 he01 hf1 hg1 hk1 g0) (cwV 3 hts gL_locate_X5_locate rfl rfl rfl (by decide +kernel) ⟨Nat.le_of_ble_eq_true rfl, Nat.le_of_ble_eq_true rfl⟩) (pve_ hev hS hFc hK hPc hDc (va_recv hK hPc (ci := 5) (q0 := 0) rfl rfl)) rfl rfl hl.1 rfl (lv_room (Nat.le_of_ble_eq_true rfl)) dL_locate_7 ⟨by show 0 + 6 ≤ 6; omega, by show 0 + (12 + 4 * cx1) ≤ 12 + 4 * cx1; omega⟩) hS (fun q _ h => hFc q h) hFc (fun q _ h => hFc q h) (fun E ce q9 u t H1 locs ht hvm _ hBX hz1 hk1 hS hce hcv hcl => ?_) (fun r1 u t H1 locs ht hvm hw hB hz1 hk1 hS => ?_)
  · obtain ⟨hE, hP1, hK1, hD1⟩ := hBX
    rw [ht] at hP1
    obtain ⟨hP, hD⟩ := va_join (wr := [(ot, .inl (cJ, 1, .inr (.inl ou)))]) (w1 := [(ra0, .inr (5, sr_ fa fb oa)), (fa, .inr (3, fg_ kd1 (nI pp1) (nI nn1) qx1 qy1 qs1 pr1 sc1 qt1 qh1 mn1 qm1 qd1)), (qx1, .inl (cI, cx1, .inl xs1)), (qy1, .inl (cI, cx1, .inl ys1)), (qs1, .inl (cI, cp1, .inl st1)), (qt1, .inl (cI, ct1, .inl ta1)), (qh1, .inl (cI, ct1, .inl he1)), (qm1, .inl (cI, ct1, .inl ma1)), (qd1, .inl (cJ, ct1, .inr (.inl sd1)))]) hP hD [0, 1, 2, 3, 4, 5, 6, 7, 8] [9] rfl rfl (by decide) (by decide) hk1 hFc hP1 hD1
    clear hPc hDc hFc hP1 hD1 hK1 hk1 hz1 hvm ht
    generalize H1 = H at hP hS hce ⊢
    have hP : va_P g vwCl [(ot, .inl (cJ, 1, .inr (.inl ou))), (ra0, .inr (5, sr_ fa fb oa)), (fa, .inr (3, fg_ kd1 (nI pp1) (nI nn1) qx1 qy1 qs1 pr1 sc1 qt1 qh1 mn1 qm1 qd1)), (qx1, .inl (cI, cx1, .inl xs1)), (qy1, .inl (cI, cx1, .inl ys1)), (qs1, .inl (cI, cp1, .inl st1)), (qt1, .inl (cI, ct1, .inl ta1)), (qh1, .inl (cI, ct1, .inl he1)), (qm1, .inl (cI, ct1, .inl ma1)), (qd1, .inl (cJ, ct1, .inr (.inl sd1)))] H := hP
    have hD : va_D A [(ot, .inl (cJ, 1, .inr (.inl ou))), (ra0, .inr (5, sr_ fa fb oa)), (fa, .inr (3, fg_ kd1 (nI pp1) (nI nn1) qx1 qy1 qs1 pr1 sc1 qt1 qh1 mn1 qm1 qd1)), (qx1, .inl (cI, cx1, .inl xs1)), (qy1, .inl (cI, cx1, .inl ys1)), (qs1, .inl (cI, cp1, .inl st1)), (qt1, .inl (cI, ct1, .inl ta1)), (qh1, .inl (cI, ct1, .inl he1)), (qm1, .inl (cI, ct1, .inl ma1)), (qd1, .inl (cJ, ct1, .inr (.inl sd1)))] := hD
    obtain ⟨rfl, hE⟩ := hE
    refine vx_catch hown [⟨0, 12, 15, 13⟩] ⟨0, 12, 19, 15⟩ [] hT (fun z hz => by
        rcases List.mem_cons.mp hz with rfl | hz
        · exact Or.inr ⟨by decide, "java/lang/IndexOutOfBoundsException", hts (.classLink RL 13 "java/lang/IndexOutOfBoundsException") (List.mem_of_getElem? (i := 1) rfl), hev.1.2.2.2.2.2.1⟩
        · exact absurd hz (by simp)) rfl (by decide) (hts (.classLink RL 15 "java/lang/IllegalArgumentException") (List.mem_of_getElem? (i := 2) rfl)) (va_Nw.use rfl (hev.1.1 _ (List.mem_of_getElem? (i := 1) rfl))) hce hcv hcl ?_
    show W p l e _ s m _ below meth c H locs (0 + 6) (0 + (12 + 4 * cx1)) _ (F0 m 19 ls [.ref q9])
    refine lv_astore (lv' := [(5, .ref q9), (0, .ref ra0), (1, .int 0), (2, .int x1), (3, .int y1), (4, .ref ot)]) hx hb dL_locate_19 hl (by decide) rfl (fun ls hl => ?_)
    refine lv_iconst (v := 2) hx hb dL_locate_21 (by decide) ?_
    refine W.widen (k := 6) (n := (12 + 4 * cx1)) (by omega) (by omega) ?_
    have hP9 := hP.sub (ws' := [(ra0, .inr (5, sr_ fa fb oa)), (fa, .inr (3, fg_ kd1 (nI pp1) (nI nn1) qx1 qy1 qs1 pr1 sc1 qt1 qh1 mn1 qm1 qd1)), (qx1, .inl (cI, cx1, .inl xs1)), (qy1, .inl (cI, cx1, .inl ys1)), (qs1, .inl (cI, cp1, .inl st1)), (qt1, .inl (cI, ct1, .inl ta1)), (qh1, .inl (cI, ct1, .inl he1)), (qm1, .inl (cI, ct1, .inl ma1)), (qd1, .inl (cJ, ct1, .inr (.inl sd1))), (ot, .inl (cJ, 1, .inr (.inl ou)))]) [1, 2, 3, 4, 5, 6, 7, 8, 9, 0] rfl
    have hD9 := hD.sub (ws' := [(ra0, .inr (5, sr_ fa fb oa)), (fa, .inr (3, fg_ kd1 (nI pp1) (nI nn1) qx1 qy1 qs1 pr1 sc1 qt1 qh1 mn1 qm1 qd1)), (qx1, .inl (cI, cx1, .inl xs1)), (qy1, .inl (cI, cx1, .inl ys1)), (qs1, .inl (cI, cp1, .inl st1)), (qt1, .inl (cI, ct1, .inl ta1)), (qh1, .inl (cI, ct1, .inl he1)), (qm1, .inl (cI, ct1, .inl ma1)), (qd1, .inl (cJ, ct1, .inr (.inl sd1))), (ot, .inl (cJ, 1, .inr (.inl ou)))]) [1, 2, 3, 4, 5, 6, 7, 8, 9, 0] (by decide) rfl
    exact W.iret (v := 2) hx hb hr (fun t ht hW => ⟨⟨2, (ct1, ta1, he1, ma1, sd1, pr1, sc1, mn1, ou), rfl, ⟨fun z => absurd hE (fun w => w.elim (fun q => q z.1) (fun q => q z.2)), fun _ => rfl, Or.inl rfl, hg1⟩, qt1, qh1, qm1, qd1, by rw [ht]; exact hP9, va_K.moved hW.alike hK, hD9⟩, hS.F ht⟩) hS.2.2 dL_locate_22
  · obtain ⟨ct3, ta3, he3, ma3, sd3⟩ := u
    obtain ⟨qt3, qh3, qm3, qd3, hP1, hK1, hD1⟩ := hB
    rw [ht] at hP1
    dsimp only at hw
    obtain ⟨hP, hD⟩ := va_join (wr := [(ot, .inl (cJ, 1, .inr (.inl ou)))]) (w1 := [(ra0, .inr (5, sr_ fa fb oa)), (fa, .inr (3, fg_ kd1 (nI pp1) (nI nn1) qx1 qy1 qs1 1 (nI (prS_ kd1 xs1 ys1 sn1 pp1 nn1 pp1).length) qt3 qh3 (nI (prM_ kd1 xs1 ys1 sn1 pp1 nn1 pp1).length) qm3 qd3)), (qx1, .inl (cI, cx1, .inl xs1)), (qy1, .inl (cI, cx1, .inl ys1)), (qs1, .inl (cI, cp1, .inl st1)), (qt3, .inl (cI, ct3, .inl ta3)), (qh3, .inl (cI, ct3, .inl he3)), (qm3, .inl (cI, ct3, .inl ma3)), (qd3, .inl (cJ, ct3, .inr (.inl sd3)))]) hP hD [0, 1, 2, 3, 4, 5, 6, 7, 8] [9] rfl rfl (by decide) (by decide) hk1 hFc hP1 hD1
    clear hPc hDc hFc hP1 hD1 hK1 hk1 hz1 hvm ht
    generalize H1 = H at hP hS ⊢
    have hP : va_P g vwCl [(ot, .inl (cJ, 1, .inr (.inl ou))), (ra0, .inr (5, sr_ fa fb oa)), (fa, .inr (3, fg_ kd1 (nI pp1) (nI nn1) qx1 qy1 qs1 1 (nI (prS_ kd1 xs1 ys1 sn1 pp1 nn1 pp1).length) qt3 qh3 (nI (prM_ kd1 xs1 ys1 sn1 pp1 nn1 pp1).length) qm3 qd3)), (qx1, .inl (cI, cx1, .inl xs1)), (qy1, .inl (cI, cx1, .inl ys1)), (qs1, .inl (cI, cp1, .inl st1)), (qt3, .inl (cI, ct3, .inl ta3)), (qh3, .inl (cI, ct3, .inl he3)), (qm3, .inl (cI, ct3, .inl ma3)), (qd3, .inl (cJ, ct3, .inr (.inl sd3)))] H := hP
    have hD : va_D A [(ot, .inl (cJ, 1, .inr (.inl ou))), (ra0, .inr (5, sr_ fa fb oa)), (fa, .inr (3, fg_ kd1 (nI pp1) (nI nn1) qx1 qy1 qs1 1 (nI (prS_ kd1 xs1 ys1 sn1 pp1 nn1 pp1).length) qt3 qh3 (nI (prM_ kd1 xs1 ys1 sn1 pp1 nn1 pp1).length) qm3 qd3)), (qx1, .inl (cI, cx1, .inl xs1)), (qy1, .inl (cI, cx1, .inl ys1)), (qs1, .inl (cI, cp1, .inl st1)), (qt3, .inl (cI, ct3, .inl ta3)), (qh3, .inl (cI, ct3, .inl he3)), (qm3, .inl (cI, ct3, .inl ma3)), (qd3, .inl (cJ, ct3, .inr (.inl sd3)))] := hD
    refine lv_i2l hx hb dL_locate_10 rfl ?_
    refine va_last (D := g) hx hb hK hP hD hS 0 1 rfl rfl (by unfold vp_in; decide) dL_locate_11 (fun H locs hP hD hS => ?_)
    rw [show (0 : Int32).toNatClampNeg = 0 from rfl] at hP hD
    have hP : va_P g vwCl [(ot, .inl (cJ, 1, .inr (.inl (vp_updL ou 0 r1.toInt64)))), (ra0, .inr (5, sr_ fa fb oa)), (fa, .inr (3, fg_ kd1 (nI pp1) (nI nn1) qx1 qy1 qs1 1 (nI (prS_ kd1 xs1 ys1 sn1 pp1 nn1 pp1).length) qt3 qh3 (nI (prM_ kd1 xs1 ys1 sn1 pp1 nn1 pp1).length) qm3 qd3)), (qx1, .inl (cI, cx1, .inl xs1)), (qy1, .inl (cI, cx1, .inl ys1)), (qs1, .inl (cI, cp1, .inl st1)), (qt3, .inl (cI, ct3, .inl ta3)), (qh3, .inl (cI, ct3, .inl he3)), (qm3, .inl (cI, ct3, .inl ma3)), (qd3, .inl (cJ, ct3, .inr (.inl sd3)))] H := hP
    have hD : va_D A [(ot, .inl (cJ, 1, .inr (.inl (vp_updL ou 0 r1.toInt64)))), (ra0, .inr (5, sr_ fa fb oa)), (fa, .inr (3, fg_ kd1 (nI pp1) (nI nn1) qx1 qy1 qs1 1 (nI (prS_ kd1 xs1 ys1 sn1 pp1 nn1 pp1).length) qt3 qh3 (nI (prM_ kd1 xs1 ys1 sn1 pp1 nn1 pp1).length) qm3 qd3)), (qx1, .inl (cI, cx1, .inl xs1)), (qy1, .inl (cI, cx1, .inl ys1)), (qs1, .inl (cI, cp1, .inl st1)), (qt3, .inl (cI, ct3, .inl ta3)), (qh3, .inl (cI, ct3, .inl he3)), (qm3, .inl (cI, ct3, .inl ma3)), (qd3, .inl (cJ, ct3, .inr (.inl sd3)))] := hD
    refine lv_goto (tgt := 23) hx hb dL_locate_12 (by decide) ?_
    refine lv_iconst (v := 0) hx hb dL_locate_23 (by decide) ?_
    refine W.widen (k := 6) (n := (12 + 4 * cx1)) (by omega) (by omega) ?_
    have hP9 := hP.sub (ws' := [(ra0, .inr (5, sr_ fa fb oa)), (fa, .inr (3, fg_ kd1 (nI pp1) (nI nn1) qx1 qy1 qs1 1 (nI (prS_ kd1 xs1 ys1 sn1 pp1 nn1 pp1).length) qt3 qh3 (nI (prM_ kd1 xs1 ys1 sn1 pp1 nn1 pp1).length) qm3 qd3)), (qx1, .inl (cI, cx1, .inl xs1)), (qy1, .inl (cI, cx1, .inl ys1)), (qs1, .inl (cI, cp1, .inl st1)), (qt3, .inl (cI, ct3, .inl ta3)), (qh3, .inl (cI, ct3, .inl he3)), (qm3, .inl (cI, ct3, .inl ma3)), (qd3, .inl (cJ, ct3, .inr (.inl sd3))), (ot, .inl (cJ, 1, .inr (.inl (vp_updL ou 0 r1.toInt64))))]) [1, 2, 3, 4, 5, 6, 7, 8, 9, 0] rfl
    have hD9 := hD.sub (ws' := [(ra0, .inr (5, sr_ fa fb oa)), (fa, .inr (3, fg_ kd1 (nI pp1) (nI nn1) qx1 qy1 qs1 1 (nI (prS_ kd1 xs1 ys1 sn1 pp1 nn1 pp1).length) qt3 qh3 (nI (prM_ kd1 xs1 ys1 sn1 pp1 nn1 pp1).length) qm3 qd3)), (qx1, .inl (cI, cx1, .inl xs1)), (qy1, .inl (cI, cx1, .inl ys1)), (qs1, .inl (cI, cp1, .inl st1)), (qt3, .inl (cI, ct3, .inl ta3)), (qh3, .inl (cI, ct3, .inl he3)), (qm3, .inl (cI, ct3, .inl ma3)), (qd3, .inl (cJ, ct3, .inr (.inl sd3))), (ot, .inl (cJ, 1, .inr (.inl (vp_updL ou 0 r1.toInt64))))]) [1, 2, 3, 4, 5, 6, 7, 8, 9, 0] (by decide) rfl
    exact W.iret (v := 0) hx hb hr (fun t ht hW => ⟨⟨0, (ct3, ta3, he3, ma3, sd3, 1, nI (prS_ kd1 xs1 ys1 sn1 pp1 nn1 pp1).length, nI (prM_ kd1 xs1 ys1 sn1 pp1 nn1 pp1).length, vp_updL ou 0 r1.toInt64), rfl, ⟨fun _ => ⟨rfl, by rw [pk_uLs, hw.2.1]⟩, fun z => z.elim (fun q => absurd hw.1.1 q) (fun q => absurd hw.1.2 q), hw.2.2.2.2.1, Or.inr ⟨rfl, hw.2.2.1, rfl, rfl, hw.2.2.2.2.2.1, hw.2.2.2.2.2.2⟩⟩, qt3, qh3, qm3, qd3, by rw [ht]; exact hP9, va_K.moved hW.alike hK, hD9⟩, hS.F ht⟩) hS.2.2 dL_locate_24

set_option maxHeartbeats 1000000 in
set_option maxRecDepth 100000 in
theorem kL_shape1 (l : Launch) (g : va_G) (cI cJ cZ : ClassId) (sz : Nat) (hlt : l.stackTraces = false) (ra0 : Nat) (fa : Nat) (fb : Nat) (oa : Nat) (kd : Int32) (pn : Int32) (pt : Int32) (qx : Nat) (qy : Nat) (qs : Nat) (pr : Int32) (sc : Int32) (qt : Nat) (qh : Nat) (mn : Int32) (qm : Nat) (qd : Nat) (k1 : Nat) (k2 : Nat) (ba : Nat) (ca : Nat) (qm0 : Nat) (fr : Int32) (kv : Int32) (ot : Nat) (ou : Nat → Int64)  : Met l yL_shape wsL_shape ({ frames := 8, cells := 2, slots := 12, locals := 127 }) (pce_ g cI cJ cZ [.ref ra0, .int 1, .int kv, .ref ot] [(ra0, .inr (5, sr_ fa fb oa)), (fb, .inr (3, fg_ kd pn pt qx qy qs pr sc qt qh mn qm qd)), (oa, .inr (4, ov_ k1 k2 ba ca qm0 fr)), (ot, .inl (cJ, 1, .inr (.inl ou)))] sz) (va_Qi (fun (r : Int32) (u : Int32 × Int32 × Int32 × Int32 × Int32 × (Nat → Int64)) => match u with | (kd9, pn9, pt9, pr9, fr9, ou9) => (¬ wi_ kv 1 3 = 0 → r = 0 ∧ kd9 = kv ∧ pn9 = 0 ∧ pt9 = 0 ∧ pr9 = 0 ∧ fr9 = 0 ∧ ou9 0 = pt.toInt64) ∧ (wi_ kv 1 3 = 0 → r = 2 ∧ kd9 = kd ∧ pn9 = pn ∧ pt9 = pt ∧ pr9 = pr ∧ fr9 = fr)) (fun (u : Int32 × Int32 × Int32 × Int32 × Int32 × (Nat → Int64)) t => match u with | (kd9, pn9, pt9, pr9, fr9, ou9) => wd_ g cI cJ cZ (va_A [(ra0, .inr (5, sr_ fa fb oa)), (fb, .inr (3, fg_ kd pn pt qx qy qs pr sc qt qh mn qm qd)), (oa, .inr (4, ov_ k1 k2 ba ca qm0 fr)), (ot, .inl (cJ, 1, .inr (.inl ou)))] sz) [(ra0, .inr (5, sr_ fa fb oa)), (fb, .inr (3, fg_ kd9 pn9 pt9 qx qy qs pr9 sc qt qh mn qm qd)), (oa, .inr (4, ov_ k1 k2 ba ca qm0 fr9)), (ot, .inl (cJ, 1, .inr (.inl ou9)))] t) (va_A [(ra0, .inr (5, sr_ fa fb oa)), (fb, .inr (3, fg_ kd pn pt qx qy qs pr sc qt qh mn qm qd)), (oa, .inr (4, ov_ k1 k2 ba ca qm0 fr)), (ot, .inl (cJ, 1, .inr (.inl ou)))] sz)) (2) (12) (va_A [(ra0, .inr (5, sr_ fa fb oa)), (fb, .inr (3, fg_ kd pn pt qx qy qs pr sc qt qh mn qm qd)), (oa, .inr (4, ov_ k1 k2 ba ca qm0 fr)), (ot, .inl (cJ, 1, .inr (.inl ou)))] sz) := by
  refine mo_ofWH (hh := [(0, 10, 13, 13), (0, 10, 17, 15)]) (cc := cL_shape) (maxL := 5) (ret := (some .int)) (by decide) rfl ?_
  intro p e s m args below meth c s₁ B hml hv
  obtain ⟨rfl, ⟨hsz, hP, hK, hD0⟩, hev⟩ := hv
  have hx := B.exec
  have hb := B.bytes
  have hr := B.returns
  have hts := atoms_spec (ws := wsL_shape) B.pre
  have hown : s.vm.findClass RL = some m.cls := findClass_of_methodNamed B.named
  have hlocks := B.notSynchronized
  have hT : c.exceptionTable.toList = tableOf [(0, 10, 13, 13), (0, 10, 17, 15)] := vx_table (x := yL_shape) B (hts _ List.mem_cons_self)
  subst hsz
  have hD := hD0.self (sz := s.heap.size)
  generalize hAe : va_A [(ra0, .inr (5, sr_ fa fb oa)), (fb, .inr (3, fg_ kd pn pt qx qy qs pr sc qt qh mn qm qd)), (oa, .inr (4, ov_ k1 k2 ba ca qm0 fr)), (ot, .inl (cJ, 1, .inr (.inl ou)))] s.heap.size = A at hD hev ⊢
  have hA : ∀ q : Nat, s.heap.size ≤ q → A q := fun q h => by rw [← hAe]; exact Or.inr h
  have hS : va_S A s.heap s.heap [] := va_S.rf
  have hP : va_P g vwCl [(ra0, .inr (5, sr_ fa fb oa)), (fb, .inr (3, fg_ kd pn pt qx qy qs pr sc qt qh mn qm qd)), (oa, .inr (4, ov_ k1 k2 ba ca qm0 fr)), (ot, .inl (cJ, 1, .inr (.inl ou)))] s.heap := hP
  have hl := lv_entry ([.ref ra0, .int 1, .int kv, .ref ot]) (n := 5) (Nat.le_of_ble_eq_true rfl)
  rw [lg_entry_eq]
  generalize (lg_sl ([.ref ra0, .int 1, .int kv, .ref ot]) ++ List.replicate (5 - (lg_sl ([.ref ra0, .int 1, .int kv, .ref ot])).length) Slot.unset).toArray = ls at hl ⊢
  have hl : lv_has ls 5 [(0, .ref ra0), (1, .int 1), (2, .int kv), (3, .ref ot)] := hl
  have hH0 : s.heap = s.heap := rfl
  refine lv_aload_n hx hb dL_shape_0 rfl (lv_at hl 3 rfl) ?_
  refine lv_iconst (v := 0) hx hb dL_shape_1 (by decide) ?_
  refine lv_aload_n hx hb dL_shape_2 rfl (lv_at hl 0 rfl) ?_
  refine lv_iload_n hx hb dL_shape_3 rfl (lv_at hl 1 rfl) ?_
  refine lv_iload_n hx hb dL_shape_4 rfl (lv_at hl 2 rfl) ?_
  have hPc := hP.sub (ws' := [(ra0, .inr (5, sr_ fa fb oa)), (fb, .inr (3, fg_ kd pn pt qx qy qs pr sc qt qh mn qm qd)), (oa, .inr (4, ov_ k1 k2 ba ca qm0 fr))]) [0, 1, 2] rfl
  have hDc := hD.sub (ws' := [(ra0, .inr (5, sr_ fa fb oa)), (fb, .inr (3, fg_ kd pn pt qx qy qs pr sc qt qh mn qm qd)), (oa, .inr (4, ov_ k1 k2 ba ca qm0 fr))]) [0, 1, 2] (by decide) rfl
  have hFc := va_free (wc := [(ra0, .inr (5, sr_ fa fb oa)), (fb, .inr (3, fg_ kd pn pt qx qy qs pr sc qt qh mn qm qd)), (oa, .inr (4, ov_ k1 k2 ba ca qm0 fr))]) hD hS hA [0, 1, 2] rfl
  refine vx_calli (vx_runV (As := [.int 1, .int kv]) (rest := [.int 0, .ref ot]) ⟨hx, hb, hml, hown, hts⟩ (kX5_shape1 l g cI cJ cZ s.heap.size hlt ra0 fa fb oa kd pn pt qx qy qs pr sc qt qh mn qm qd k1 k2 ba ca qm0 fr kv) (cwV 2 hts gL_shape_X5_shape rfl rfl rfl (by decide +kernel) ⟨Nat.le_of_ble_eq_true rfl, Nat.le_of_ble_eq_true rfl⟩) (pve_ hev hS hFc hK hPc hDc (va_recv hK hPc (ci := 5) (q0 := 0) rfl rfl)) rfl rfl hl.1 rfl (lv_room (Nat.le_of_ble_eq_true rfl)) dL_shape_5 ⟨by show 0 + 2 ≤ 2; omega, by show 0 + 12 ≤ 12; omega⟩) hS (fun q _ h => hFc q h) hFc (fun q _ h => hFc q h) (fun E ce q9 u t H1 locs ht hvm _ hBX hz1 hk1 hS hce hcv hcl => ?_) (fun r1 u t H1 locs ht hvm hw hB hz1 hk1 hS => ?_)
  · obtain ⟨hE, hP1, hK1, hD1⟩ := hBX
    rw [ht] at hP1
    obtain ⟨hP, hD⟩ := va_join (wr := [(ot, .inl (cJ, 1, .inr (.inl ou)))]) (w1 := [(ra0, .inr (5, sr_ fa fb oa)), (fb, .inr (3, fg_ kd pn pt qx qy qs pr sc qt qh mn qm qd)), (oa, .inr (4, ov_ k1 k2 ba ca qm0 fr))]) hP hD [0, 1, 2] [3] rfl rfl (by decide) (by decide) hk1 hFc hP1 hD1
    clear hPc hDc hFc hP1 hD1 hK1 hk1 hz1 hvm ht
    generalize H1 = H at hP hS hce ⊢
    have hP : va_P g vwCl [(ot, .inl (cJ, 1, .inr (.inl ou))), (ra0, .inr (5, sr_ fa fb oa)), (fb, .inr (3, fg_ kd pn pt qx qy qs pr sc qt qh mn qm qd)), (oa, .inr (4, ov_ k1 k2 ba ca qm0 fr))] H := hP
    have hD : va_D A [(ot, .inl (cJ, 1, .inr (.inl ou))), (ra0, .inr (5, sr_ fa fb oa)), (fb, .inr (3, fg_ kd pn pt qx qy qs pr sc qt qh mn qm qd)), (oa, .inr (4, ov_ k1 k2 ba ca qm0 fr))] := hD
    obtain ⟨rfl, hE⟩ := hE
    refine vx_catch hown [⟨0, 10, 13, 13⟩] ⟨0, 10, 17, 15⟩ [] hT (fun z hz => by
        rcases List.mem_cons.mp hz with rfl | hz
        · exact Or.inr ⟨by decide, "java/lang/IndexOutOfBoundsException", hts (.classLink RL 13 "java/lang/IndexOutOfBoundsException") (List.mem_of_getElem? (i := 1) rfl), hev.1.2.2.2.2.2.1⟩
        · exact absurd hz (by simp)) rfl (by decide) (hts (.classLink RL 15 "java/lang/IllegalArgumentException") (List.mem_of_getElem? (i := 2) rfl)) (va_Nw.use rfl (hev.1.1 _ (List.mem_of_getElem? (i := 1) rfl))) hce hcv hcl ?_
    show W p l e _ s m _ below meth c H locs (0 + 2) (0 + 12) _ (F0 m 17 ls [.ref q9])
    refine lv_astore (lv' := [(4, .ref q9), (0, .ref ra0), (1, .int 1), (2, .int kv), (3, .ref ot)]) hx hb dL_shape_17 hl (by decide) rfl (fun ls hl => ?_)
    refine lv_iconst (v := 2) hx hb dL_shape_19 (by decide) ?_
    refine W.widen (k := 2) (n := 12) (by omega) (by omega) ?_
    have hP9 := hP.sub (ws' := [(ra0, .inr (5, sr_ fa fb oa)), (fb, .inr (3, fg_ kd pn pt qx qy qs pr sc qt qh mn qm qd)), (oa, .inr (4, ov_ k1 k2 ba ca qm0 fr)), (ot, .inl (cJ, 1, .inr (.inl ou)))]) [1, 2, 3, 0] rfl
    have hD9 := hD.sub (ws' := [(ra0, .inr (5, sr_ fa fb oa)), (fb, .inr (3, fg_ kd pn pt qx qy qs pr sc qt qh mn qm qd)), (oa, .inr (4, ov_ k1 k2 ba ca qm0 fr)), (ot, .inl (cJ, 1, .inr (.inl ou)))]) [1, 2, 3, 0] (by decide) rfl
    exact W.iret (v := 2) hx hb hr (fun t ht hW => ⟨⟨2, (kd, pn, pt, pr, fr, ou), rfl, ⟨fun z => absurd hE z, fun _ => ⟨rfl, rfl, rfl, rfl, rfl, rfl⟩⟩, by rw [ht]; exact hP9, va_K.moved hW.alike hK, hD9⟩, hS.F ht⟩) hS.2.2 dL_shape_20
  · obtain ⟨hP1, hK1, hD1⟩ := hB
    rw [ht] at hP1
    obtain ⟨hP, hD⟩ := va_join (wr := [(ot, .inl (cJ, 1, .inr (.inl ou)))]) (w1 := [(ra0, .inr (5, sr_ fa fb oa)), (fb, .inr (3, fg_ kv 0 0 qx qy qs 0 sc qt qh mn qm qd)), (oa, .inr (4, ov_ k1 k2 ba ca qm0 0))]) hP hD [0, 1, 2] [3] rfl rfl (by decide) (by decide) hk1 hFc hP1 hD1
    clear hPc hDc hFc hP1 hD1 hK1 hk1 hz1 hvm ht
    generalize H1 = H at hP hS ⊢
    have hP : va_P g vwCl [(ot, .inl (cJ, 1, .inr (.inl ou))), (ra0, .inr (5, sr_ fa fb oa)), (fb, .inr (3, fg_ kv 0 0 qx qy qs 0 sc qt qh mn qm qd)), (oa, .inr (4, ov_ k1 k2 ba ca qm0 0))] H := hP
    have hD : va_D A [(ot, .inl (cJ, 1, .inr (.inl ou))), (ra0, .inr (5, sr_ fa fb oa)), (fb, .inr (3, fg_ kv 0 0 qx qy qs 0 sc qt qh mn qm qd)), (oa, .inr (4, ov_ k1 k2 ba ca qm0 0))] := hD
    refine lv_i2l hx hb dL_shape_8 rfl ?_
    refine va_last (D := g) hx hb hK hP hD hS 0 1 rfl rfl (by unfold vp_in; decide) dL_shape_9 (fun H locs hP hD hS => ?_)
    rw [show (0 : Int32).toNatClampNeg = 0 from rfl] at hP hD
    have hP : va_P g vwCl [(ot, .inl (cJ, 1, .inr (.inl (vp_updL ou 0 r1.toInt64)))), (ra0, .inr (5, sr_ fa fb oa)), (fb, .inr (3, fg_ kv 0 0 qx qy qs 0 sc qt qh mn qm qd)), (oa, .inr (4, ov_ k1 k2 ba ca qm0 0))] H := hP
    have hD : va_D A [(ot, .inl (cJ, 1, .inr (.inl (vp_updL ou 0 r1.toInt64)))), (ra0, .inr (5, sr_ fa fb oa)), (fb, .inr (3, fg_ kv 0 0 qx qy qs 0 sc qt qh mn qm qd)), (oa, .inr (4, ov_ k1 k2 ba ca qm0 0))] := hD
    refine lv_goto (tgt := 21) hx hb dL_shape_10 (by decide) ?_
    refine lv_iconst (v := 0) hx hb dL_shape_21 (by decide) ?_
    refine W.widen (k := 2) (n := 12) (by omega) (by omega) ?_
    have hP9 := hP.sub (ws' := [(ra0, .inr (5, sr_ fa fb oa)), (fb, .inr (3, fg_ kv 0 0 qx qy qs 0 sc qt qh mn qm qd)), (oa, .inr (4, ov_ k1 k2 ba ca qm0 0)), (ot, .inl (cJ, 1, .inr (.inl (vp_updL ou 0 r1.toInt64))))]) [1, 2, 3, 0] rfl
    have hD9 := hD.sub (ws' := [(ra0, .inr (5, sr_ fa fb oa)), (fb, .inr (3, fg_ kv 0 0 qx qy qs 0 sc qt qh mn qm qd)), (oa, .inr (4, ov_ k1 k2 ba ca qm0 0)), (ot, .inl (cJ, 1, .inr (.inl (vp_updL ou 0 r1.toInt64))))]) [1, 2, 3, 0] (by decide) rfl
    exact W.iret (v := 0) hx hb hr (fun t ht hW => ⟨⟨0, (kv, 0, 0, 0, 0, vp_updL ou 0 r1.toInt64), rfl, ⟨fun _ => ⟨rfl, rfl, rfl, rfl, rfl, rfl, by rw [pk_uLs, hw.2]⟩, fun z => absurd z hw.1⟩, by rw [ht]; exact hP9, va_K.moved hW.alike hK, hD9⟩, hS.F ht⟩) hS.2.2 dL_shape_22

set_option maxHeartbeats 1000000 in
set_option maxRecDepth 100000 in
theorem kL_part1 (l : Launch) (g : va_G) (cI cJ cZ : ClassId) (sz : Nat) (hlt : l.stackTraces = false) (ra0 : Nat) (fa : Nat) (fb : Nat) (oa : Nat) (kd : Int32) (pt : Int32) (qx : Nat) (qy : Nat) (qs : Nat) (pr : Int32) (sc : Int32) (qt : Nat) (qh : Nat) (mn : Int32) (qm : Nat) (qd : Nat) (cp : Nat) (st : Nat → Int32) (k : Nat) (ot : Nat) (ou : Nat → Int64) (g1 : cp < 100000) (g2 : k ≤ cp) (g0 : 16 ≤ cp) (hk : k < 1024) : Met l yL_part wsL_part ({ frames := 8, cells := 2, slots := 6 + 2 * cp, locals := 125 }) (pce_ g cI cJ cZ [.ref ra0, .int 1, .ref ot] [(ra0, .inr (5, sr_ fa fb oa)), (fb, .inr (3, fg_ kd (nI k) pt qx qy qs pr sc qt qh mn qm qd)), (qs, .inl (cI, cp, .inl st)), (ot, .inl (cJ, 1, .inr (.inl ou)))] sz) (va_Qi (fun (r : Int32) (u : (Nat → Int32) × (Nat → Int64)) => match u with | (st2, ou9) => r = 0 ∧ (∀ i, i < k → st2 i = st i) ∧ st2 k = pt ∧ ou9 0 = (nI (k + 1)).toInt64) (fun (u : (Nat → Int32) × (Nat → Int64)) t => match u with | (st2, ou9) => ∃ (qs2 : Nat), wd_ g cI cJ cZ (va_A [(ra0, .inr (5, sr_ fa fb oa)), (fb, .inr (3, fg_ kd (nI k) pt qx qy qs pr sc qt qh mn qm qd)), (qs, .inl (cI, cp, .inl st)), (ot, .inl (cJ, 1, .inr (.inl ou)))] sz) [(ra0, .inr (5, sr_ fa fb oa)), (fb, .inr (3, fg_ kd (nI (k + 1)) pt qx qy qs2 0 sc qt qh mn qm qd)), (qs2, .inl (cI, gcap_ k cp, .inl st2)), (ot, .inl (cJ, 1, .inr (.inl ou9)))] t) (va_A [(ra0, .inr (5, sr_ fa fb oa)), (fb, .inr (3, fg_ kd (nI k) pt qx qy qs pr sc qt qh mn qm qd)), (qs, .inl (cI, cp, .inl st)), (ot, .inl (cJ, 1, .inr (.inl ou)))] sz)) (2) (6 + 2 * cp) (va_A [(ra0, .inr (5, sr_ fa fb oa)), (fb, .inr (3, fg_ kd (nI k) pt qx qy qs pr sc qt qh mn qm qd)), (qs, .inl (cI, cp, .inl st)), (ot, .inl (cJ, 1, .inr (.inl ou)))] sz) := by
  refine mo_ofWH (hh := [(0, 9, 12, 13), (0, 9, 15, 21)]) (cc := cL_part) (maxL := 4) (ret := (some .int)) (by decide) rfl ?_
  intro p e s m args below meth c s₁ B hml hv
  obtain ⟨rfl, ⟨hsz, hP, hK, hD0⟩, hev⟩ := hv
  have hx := B.exec
  have hb := B.bytes
  have hr := B.returns
  have hts := atoms_spec (ws := wsL_part) B.pre
  have hown : s.vm.findClass RL = some m.cls := findClass_of_methodNamed B.named
  have hlocks := B.notSynchronized
  have hT : c.exceptionTable.toList = tableOf [(0, 9, 12, 13), (0, 9, 15, 21)] := vx_table (x := yL_part) B (hts _ List.mem_cons_self)
  subst hsz
  have hD := hD0.self (sz := s.heap.size)
  generalize hAe : va_A [(ra0, .inr (5, sr_ fa fb oa)), (fb, .inr (3, fg_ kd (nI k) pt qx qy qs pr sc qt qh mn qm qd)), (qs, .inl (cI, cp, .inl st)), (ot, .inl (cJ, 1, .inr (.inl ou)))] s.heap.size = A at hD hev ⊢
  have hA : ∀ q : Nat, s.heap.size ≤ q → A q := fun q h => by rw [← hAe]; exact Or.inr h
  have hS : va_S A s.heap s.heap [] := va_S.rf
  have hP : va_P g vwCl [(ra0, .inr (5, sr_ fa fb oa)), (fb, .inr (3, fg_ kd (nI k) pt qx qy qs pr sc qt qh mn qm qd)), (qs, .inl (cI, cp, .inl st)), (ot, .inl (cJ, 1, .inr (.inl ou)))] s.heap := hP
  have hl := lv_entry ([.ref ra0, .int 1, .ref ot]) (n := 4) (Nat.le_of_ble_eq_true rfl)
  rw [lg_entry_eq]
  generalize (lg_sl ([.ref ra0, .int 1, .ref ot]) ++ List.replicate (4 - (lg_sl ([.ref ra0, .int 1, .ref ot])).length) Slot.unset).toArray = ls at hl ⊢
  have hl : lv_has ls 4 [(0, .ref ra0), (1, .int 1), (2, .ref ot)] := hl
  have hH0 : s.heap = s.heap := rfl
  refine lv_aload_n hx hb dL_part_0 rfl (lv_at hl 2 rfl) ?_
  refine lv_iconst (v := 0) hx hb dL_part_1 (by decide) ?_
  refine lv_aload_n hx hb dL_part_2 rfl (lv_at hl 0 rfl) ?_
  refine lv_iload_n hx hb dL_part_3 rfl (lv_at hl 1 rfl) ?_
  have hPc := hP.sub (ws' := [(ra0, .inr (5, sr_ fa fb oa)), (fb, .inr (3, fg_ kd (nI k) pt qx qy qs pr sc qt qh mn qm qd)), (qs, .inl (cI, cp, .inl st))]) [0, 1, 2] rfl
  have hDc := hD.sub (ws' := [(ra0, .inr (5, sr_ fa fb oa)), (fb, .inr (3, fg_ kd (nI k) pt qx qy qs pr sc qt qh mn qm qd)), (qs, .inl (cI, cp, .inl st))]) [0, 1, 2] (by decide) rfl
  have hFc := va_free (wc := [(ra0, .inr (5, sr_ fa fb oa)), (fb, .inr (3, fg_ kd (nI k) pt qx qy qs pr sc qt qh mn qm qd)), (qs, .inl (cI, cp, .inl st))]) hD hS hA [0, 1, 2] rfl
  refine vx_calli (vx_runV (As := [.int 1]) (rest := [.int 0, .ref ot]) ⟨hx, hb, hml, hown, hts⟩ (kX5_part1 l g cI cJ cZ s.heap.size hlt ra0 fa fb oa kd pt qx qy qs pr sc qt qh mn qm qd cp st k g1 g2 g0) (cwV 1 hts gL_part_X5_part rfl rfl rfl (by decide +kernel) ⟨Nat.le_of_ble_eq_true rfl, Nat.le_of_ble_eq_true rfl⟩) (pve_ hev hS hFc hK hPc hDc (va_recv hK hPc (ci := 5) (q0 := 0) rfl rfl)) rfl rfl hl.1 rfl (lv_room (Nat.le_of_ble_eq_true rfl)) dL_part_4 ⟨by show 0 + 2 ≤ 2; omega, by show 0 + (6 + 2 * cp) ≤ 6 + 2 * cp; omega⟩) hS (fun q _ h => hFc q h) hFc (fun q _ h => hFc q h) (fun E ce q9 u t H1 locs ht hvm _ hBX hz1 hk1 hS hce hcv hcl => ?_) (fun r1 u t H1 locs ht hvm hw hB hz1 hk1 hS => ?_)
  · obtain ⟨hE, hP1, hK1, hD1⟩ := hBX
    rw [ht] at hP1
    obtain ⟨hP, hD⟩ := va_join (wr := [(ot, .inl (cJ, 1, .inr (.inl ou)))]) (w1 := [(ra0, .inr (5, sr_ fa fb oa)), (fb, .inr (3, fg_ kd (nI k) pt qx qy qs pr sc qt qh mn qm qd)), (qs, .inl (cI, cp, .inl st))]) hP hD [0, 1, 2] [3] rfl rfl (by decide) (by decide) hk1 hFc hP1 hD1
    clear hPc hDc hFc hP1 hD1 hK1 hk1 hz1 hvm ht
    generalize H1 = H at hP hS hce ⊢
    have hP : va_P g vwCl [(ot, .inl (cJ, 1, .inr (.inl ou))), (ra0, .inr (5, sr_ fa fb oa)), (fb, .inr (3, fg_ kd (nI k) pt qx qy qs pr sc qt qh mn qm qd)), (qs, .inl (cI, cp, .inl st))] H := hP
    have hD : va_D A [(ot, .inl (cJ, 1, .inr (.inl ou))), (ra0, .inr (5, sr_ fa fb oa)), (fb, .inr (3, fg_ kd (nI k) pt qx qy qs pr sc qt qh mn qm qd)), (qs, .inl (cI, cp, .inl st))] := hD
    exact absurd hk hE.2
  · obtain ⟨st3, rfl⟩ : ∃ z, z = u := ⟨_, rfl⟩
    obtain ⟨qs3, hP1, hK1, hD1⟩ := hB
    rw [ht] at hP1
    obtain ⟨hP, hD⟩ := va_join (wr := [(ot, .inl (cJ, 1, .inr (.inl ou)))]) (w1 := [(ra0, .inr (5, sr_ fa fb oa)), (fb, .inr (3, fg_ kd (nI (k + 1)) pt qx qy qs3 0 sc qt qh mn qm qd)), (qs3, .inl (cI, gcap_ k cp, .inl st3))]) hP hD [0, 1, 2] [3] rfl rfl (by decide) (by decide) hk1 hFc hP1 hD1
    clear hPc hDc hFc hP1 hD1 hK1 hk1 hz1 hvm ht
    generalize H1 = H at hP hS ⊢
    have hP : va_P g vwCl [(ot, .inl (cJ, 1, .inr (.inl ou))), (ra0, .inr (5, sr_ fa fb oa)), (fb, .inr (3, fg_ kd (nI (k + 1)) pt qx qy qs3 0 sc qt qh mn qm qd)), (qs3, .inl (cI, gcap_ k cp, .inl st3))] H := hP
    have hD : va_D A [(ot, .inl (cJ, 1, .inr (.inl ou))), (ra0, .inr (5, sr_ fa fb oa)), (fb, .inr (3, fg_ kd (nI (k + 1)) pt qx qy qs3 0 sc qt qh mn qm qd)), (qs3, .inl (cI, gcap_ k cp, .inl st3))] := hD
    refine lv_i2l hx hb dL_part_7 rfl ?_
    refine va_last (D := g) hx hb hK hP hD hS 0 1 rfl rfl (by unfold vp_in; decide) dL_part_8 (fun H locs hP hD hS => ?_)
    rw [show (0 : Int32).toNatClampNeg = 0 from rfl] at hP hD
    have hP : va_P g vwCl [(ot, .inl (cJ, 1, .inr (.inl (vp_updL ou 0 r1.toInt64)))), (ra0, .inr (5, sr_ fa fb oa)), (fb, .inr (3, fg_ kd (nI (k + 1)) pt qx qy qs3 0 sc qt qh mn qm qd)), (qs3, .inl (cI, gcap_ k cp, .inl st3))] H := hP
    have hD : va_D A [(ot, .inl (cJ, 1, .inr (.inl (vp_updL ou 0 r1.toInt64)))), (ra0, .inr (5, sr_ fa fb oa)), (fb, .inr (3, fg_ kd (nI (k + 1)) pt qx qy qs3 0 sc qt qh mn qm qd)), (qs3, .inl (cI, gcap_ k cp, .inl st3))] := hD
    refine lv_goto (tgt := 18) hx hb dL_part_9 (by decide) ?_
    refine lv_iconst (v := 0) hx hb dL_part_18 (by decide) ?_
    refine W.widen (k := 2) (n := (6 + 2 * cp)) (by omega) (by omega) ?_
    have hP9 := hP.sub (ws' := [(ra0, .inr (5, sr_ fa fb oa)), (fb, .inr (3, fg_ kd (nI (k + 1)) pt qx qy qs3 0 sc qt qh mn qm qd)), (qs3, .inl (cI, gcap_ k cp, .inl st3)), (ot, .inl (cJ, 1, .inr (.inl (vp_updL ou 0 r1.toInt64))))]) [1, 2, 3, 0] rfl
    have hD9 := hD.sub (ws' := [(ra0, .inr (5, sr_ fa fb oa)), (fb, .inr (3, fg_ kd (nI (k + 1)) pt qx qy qs3 0 sc qt qh mn qm qd)), (qs3, .inl (cI, gcap_ k cp, .inl st3)), (ot, .inl (cJ, 1, .inr (.inl (vp_updL ou 0 r1.toInt64))))]) [1, 2, 3, 0] (by decide) rfl
    exact W.iret (v := 0) hx hb hr (fun t ht hW => ⟨⟨0, (st3, vp_updL ou 0 r1.toInt64), rfl, ⟨rfl, hw.2.2.1, hw.2.2.2, by rw [pk_uLs, hw.2.1]⟩, qs3, by rw [ht]; exact hP9, va_K.moved hW.alike hK, hD9⟩, hS.F ht⟩) hS.2.2 dL_part_19

set_option maxHeartbeats 1000000 in
set_option maxRecDepth 100000 in
theorem kL_point1 (l : Launch) (g : va_G) (cI cJ cZ : ClassId) (sz : Nat) (hlt : l.stackTraces = false) (ra0 : Nat) (fa : Nat) (fb : Nat) (oa : Nat) (kd : Int32) (qx : Nat) (qy : Nat) (qs : Nat) (pr : Int32) (sc : Int32) (qt : Nat) (qh : Nat) (mn : Int32) (qm : Nat) (qd : Nat) (k1 : Nat) (k2 : Nat) (ba : Nat) (ca : Nat) (qm0 : Nat) (fr : Int32) (cx : Nat) (xs : Nat → Int32) (ys : Nat → Int32) (np : Nat) (k : Nat) (x1 : Int32) (y1 : Int32) (ot : Nat) (ou : Nat → Int64) (g1 : cx < 100000) (g2 : k ≤ cx) (g0 : 16 ≤ cx) (g3 : np < 100000) (hk : k < 2048) : Met l yL_point wsL_point ({ frames := 8, cells := 4, slots := 12 + 4 * cx, locals := 128 }) (pce_ g cI cJ cZ [.ref ra0, .int 1, .int x1, .int y1, .ref ot] [(ra0, .inr (5, sr_ fa fb oa)), (fb, .inr (3, fg_ kd (nI np) (nI k) qx qy qs pr sc qt qh mn qm qd)), (qx, .inl (cI, cx, .inl xs)), (qy, .inl (cI, cx, .inl ys)), (oa, .inr (4, ov_ k1 k2 ba ca qm0 fr)), (ot, .inl (cJ, 1, .inr (.inl ou)))] sz) (va_Qi (fun (r : Int32) (u : Nat × Nat × (Nat → Int32) × (Nat → Int32) × Int32 × Int32 × (Nat → Int64)) => match u with | (k9, cx9, xs9, ys9, pr9, fr9, ou9) => ((far_ x1 = 0 ∧ far_ y1 = 0 ∧ ¬ np = 0) → r = 0 ∧ k9 = k + 1 ∧ cx9 = gcap_ k cx ∧ (∀ i, i < k → xs9 i = xs i ∧ ys9 i = ys i) ∧ xs9 k = x1 ∧ ys9 k = y1 ∧ pr9 = 0 ∧ fr9 = 0 ∧ ou9 0 = (nI (k + 1)).toInt64) ∧ ((¬ far_ x1 = 0 ∨ ¬ far_ y1 = 0) → r = 2 ∧ k9 = k ∧ cx9 = cx ∧ xs9 = xs ∧ ys9 = ys ∧ pr9 = pr ∧ fr9 = fr) ∧ ((far_ x1 = 0 ∧ far_ y1 = 0 ∧ np = 0) → r = 3 ∧ k9 = k ∧ cx9 = cx ∧ xs9 = xs ∧ ys9 = ys ∧ pr9 = pr ∧ fr9 = fr)) (fun (u : Nat × Nat × (Nat → Int32) × (Nat → Int32) × Int32 × Int32 × (Nat → Int64)) t => match u with | (k9, cx9, xs9, ys9, pr9, fr9, ou9) => ∃ (qx9 : Nat) (qy9 : Nat), wd_ g cI cJ cZ (va_A [(ra0, .inr (5, sr_ fa fb oa)), (fb, .inr (3, fg_ kd (nI np) (nI k) qx qy qs pr sc qt qh mn qm qd)), (qx, .inl (cI, cx, .inl xs)), (qy, .inl (cI, cx, .inl ys)), (oa, .inr (4, ov_ k1 k2 ba ca qm0 fr)), (ot, .inl (cJ, 1, .inr (.inl ou)))] sz) [(ra0, .inr (5, sr_ fa fb oa)), (fb, .inr (3, fg_ kd (nI np) (nI k9) qx9 qy9 qs pr9 sc qt qh mn qm qd)), (qx9, .inl (cI, cx9, .inl xs9)), (qy9, .inl (cI, cx9, .inl ys9)), (oa, .inr (4, ov_ k1 k2 ba ca qm0 fr9)), (ot, .inl (cJ, 1, .inr (.inl ou9)))] t) (va_A [(ra0, .inr (5, sr_ fa fb oa)), (fb, .inr (3, fg_ kd (nI np) (nI k) qx qy qs pr sc qt qh mn qm qd)), (qx, .inl (cI, cx, .inl xs)), (qy, .inl (cI, cx, .inl ys)), (oa, .inr (4, ov_ k1 k2 ba ca qm0 fr)), (ot, .inl (cJ, 1, .inr (.inl ou)))] sz)) (4) (12 + 4 * cx) (va_A [(ra0, .inr (5, sr_ fa fb oa)), (fb, .inr (3, fg_ kd (nI np) (nI k) qx qy qs pr sc qt qh mn qm qd)), (qx, .inl (cI, cx, .inl xs)), (qy, .inl (cI, cx, .inl ys)), (oa, .inr (4, ov_ k1 k2 ba ca qm0 fr)), (ot, .inl (cJ, 1, .inr (.inl ou)))] sz) := by
  refine mo_ofWH (hh := [(0, 12, 15, 13), (0, 12, 19, 15), (0, 12, 23, 21)]) (cc := cL_point) (maxL := 6) (ret := (some .int)) (by decide) rfl ?_
  intro p e s m args below meth c s₁ B hml hv
  obtain ⟨rfl, ⟨hsz, hP, hK, hD0⟩, hev⟩ := hv
  have hx := B.exec
  have hb := B.bytes
  have hr := B.returns
  have hts := atoms_spec (ws := wsL_point) B.pre
  have hown : s.vm.findClass RL = some m.cls := findClass_of_methodNamed B.named
  have hlocks := B.notSynchronized
  have hT : c.exceptionTable.toList = tableOf [(0, 12, 15, 13), (0, 12, 19, 15), (0, 12, 23, 21)] := vx_table (x := yL_point) B (hts _ List.mem_cons_self)
  subst hsz
  have hD := hD0.self (sz := s.heap.size)
  generalize hAe : va_A [(ra0, .inr (5, sr_ fa fb oa)), (fb, .inr (3, fg_ kd (nI np) (nI k) qx qy qs pr sc qt qh mn qm qd)), (qx, .inl (cI, cx, .inl xs)), (qy, .inl (cI, cx, .inl ys)), (oa, .inr (4, ov_ k1 k2 ba ca qm0 fr)), (ot, .inl (cJ, 1, .inr (.inl ou)))] s.heap.size = A at hD hev ⊢
  have hA : ∀ q : Nat, s.heap.size ≤ q → A q := fun q h => by rw [← hAe]; exact Or.inr h
  have hS : va_S A s.heap s.heap [] := va_S.rf
  have hP : va_P g vwCl [(ra0, .inr (5, sr_ fa fb oa)), (fb, .inr (3, fg_ kd (nI np) (nI k) qx qy qs pr sc qt qh mn qm qd)), (qx, .inl (cI, cx, .inl xs)), (qy, .inl (cI, cx, .inl ys)), (oa, .inr (4, ov_ k1 k2 ba ca qm0 fr)), (ot, .inl (cJ, 1, .inr (.inl ou)))] s.heap := hP
  have hl := lv_entry ([.ref ra0, .int 1, .int x1, .int y1, .ref ot]) (n := 6) (Nat.le_of_ble_eq_true rfl)
  rw [lg_entry_eq]
  generalize (lg_sl ([.ref ra0, .int 1, .int x1, .int y1, .ref ot]) ++ List.replicate (6 - (lg_sl ([.ref ra0, .int 1, .int x1, .int y1, .ref ot])).length) Slot.unset).toArray = ls at hl ⊢
  have hl : lv_has ls 6 [(0, .ref ra0), (1, .int 1), (2, .int x1), (3, .int y1), (4, .ref ot)] := hl
  have hH0 : s.heap = s.heap := rfl
  refine lv_aload hx hb dL_point_0 (lv_at hl 4 rfl) ?_
  refine lv_iconst (v := 0) hx hb dL_point_2 (by decide) ?_
  refine lv_aload_n hx hb dL_point_3 rfl (lv_at hl 0 rfl) ?_
  refine lv_iload_n hx hb dL_point_4 rfl (lv_at hl 1 rfl) ?_
  refine lv_iload_n hx hb dL_point_5 rfl (lv_at hl 2 rfl) ?_
  refine lv_iload_n hx hb dL_point_6 rfl (lv_at hl 3 rfl) ?_
  have hPc := hP.sub (ws' := [(ra0, .inr (5, sr_ fa fb oa)), (fb, .inr (3, fg_ kd (nI np) (nI k) qx qy qs pr sc qt qh mn qm qd)), (qx, .inl (cI, cx, .inl xs)), (qy, .inl (cI, cx, .inl ys)), (oa, .inr (4, ov_ k1 k2 ba ca qm0 fr))]) [0, 1, 2, 3, 4] rfl
  have hDc := hD.sub (ws' := [(ra0, .inr (5, sr_ fa fb oa)), (fb, .inr (3, fg_ kd (nI np) (nI k) qx qy qs pr sc qt qh mn qm qd)), (qx, .inl (cI, cx, .inl xs)), (qy, .inl (cI, cx, .inl ys)), (oa, .inr (4, ov_ k1 k2 ba ca qm0 fr))]) [0, 1, 2, 3, 4] (by decide) rfl
  have hFc := va_free (wc := [(ra0, .inr (5, sr_ fa fb oa)), (fb, .inr (3, fg_ kd (nI np) (nI k) qx qy qs pr sc qt qh mn qm qd)), (qx, .inl (cI, cx, .inl xs)), (qy, .inl (cI, cx, .inl ys)), (oa, .inr (4, ov_ k1 k2 ba ca qm0 fr))]) hD hS hA [0, 1, 2, 3, 4] rfl
  refine vx_calli (vx_runV (As := [.int 1, .int x1, .int y1]) (rest := [.int 0, .ref ot]) ⟨hx, hb, hml, hown, hts⟩ (kX5_point1 l g cI cJ cZ s.heap.size hlt ra0 fa fb oa kd qx qy qs pr sc qt qh mn qm qd k1 k2 ba ca qm0 fr cx xs ys np k x1 y1 g1 g2 g0 g3) (cwV 3 hts gL_point_X5_point rfl rfl rfl (by decide +kernel) ⟨Nat.le_of_ble_eq_true rfl, Nat.le_of_ble_eq_true rfl⟩) (pve_ hev hS hFc hK hPc hDc (va_recv hK hPc (ci := 5) (q0 := 0) rfl rfl)) rfl rfl hl.1 rfl (lv_room (Nat.le_of_ble_eq_true rfl)) dL_point_7 ⟨by show 0 + 4 ≤ 4; omega, by show 0 + (12 + 4 * cx) ≤ 12 + 4 * cx; omega⟩) hS (fun q _ h => hFc q h) hFc (fun q _ h => hFc q h) (fun E ce q9 u t H1 locs ht hvm _ hBX hz1 hk1 hS hce hcv hcl => ?_) (fun r1 u t H1 locs ht hvm hw hB hz1 hk1 hS => ?_)
  · obtain ⟨hE, hP1, hK1, hD1⟩ := hBX
    rw [ht] at hP1
    obtain ⟨hP, hD⟩ := va_join (wr := [(ot, .inl (cJ, 1, .inr (.inl ou)))]) (w1 := [(ra0, .inr (5, sr_ fa fb oa)), (fb, .inr (3, fg_ kd (nI np) (nI k) qx qy qs pr sc qt qh mn qm qd)), (qx, .inl (cI, cx, .inl xs)), (qy, .inl (cI, cx, .inl ys)), (oa, .inr (4, ov_ k1 k2 ba ca qm0 fr))]) hP hD [0, 1, 2, 3, 4] [5] rfl rfl (by decide) (by decide) hk1 hFc hP1 hD1
    clear hPc hDc hFc hP1 hD1 hK1 hk1 hz1 hvm ht
    generalize H1 = H at hP hS hce ⊢
    have hP : va_P g vwCl [(ot, .inl (cJ, 1, .inr (.inl ou))), (ra0, .inr (5, sr_ fa fb oa)), (fb, .inr (3, fg_ kd (nI np) (nI k) qx qy qs pr sc qt qh mn qm qd)), (qx, .inl (cI, cx, .inl xs)), (qy, .inl (cI, cx, .inl ys)), (oa, .inr (4, ov_ k1 k2 ba ca qm0 fr))] H := hP
    have hD : va_D A [(ot, .inl (cJ, 1, .inr (.inl ou))), (ra0, .inr (5, sr_ fa fb oa)), (fb, .inr (3, fg_ kd (nI np) (nI k) qx qy qs pr sc qt qh mn qm qd)), (qx, .inl (cI, cx, .inl xs)), (qy, .inl (cI, cx, .inl ys)), (oa, .inr (4, ov_ k1 k2 ba ca qm0 fr))] := hD
    rcases hE with ⟨rfl, hE⟩ | ⟨rfl, hE⟩
    · refine vx_catch hown [⟨0, 12, 15, 13⟩] ⟨0, 12, 19, 15⟩ [⟨0, 12, 23, 21⟩] hT (fun z hz => by
          rcases List.mem_cons.mp hz with rfl | hz
          · exact Or.inr ⟨by decide, "java/lang/IndexOutOfBoundsException", hts (.classLink RL 13 "java/lang/IndexOutOfBoundsException") (List.mem_of_getElem? (i := 1) rfl), hev.1.2.2.2.2.2.1⟩
          · exact absurd hz (by simp)) rfl (by decide) (hts (.classLink RL 15 "java/lang/IllegalArgumentException") (List.mem_of_getElem? (i := 2) rfl)) (va_Nw.use rfl (hev.1.1 _ (List.mem_of_getElem? (i := 1) rfl))) hce hcv hcl ?_
      show W p l e _ s m _ below meth c H locs (0 + 4) (0 + (12 + 4 * cx)) _ (F0 m 19 ls [.ref q9])
      refine lv_astore (lv' := [(5, .ref q9), (0, .ref ra0), (1, .int 1), (2, .int x1), (3, .int y1), (4, .ref ot)]) hx hb dL_point_19 hl (by decide) rfl (fun ls hl => ?_)
      refine lv_iconst (v := 2) hx hb dL_point_21 (by decide) ?_
      refine W.widen (k := 4) (n := (12 + 4 * cx)) (by omega) (by omega) ?_
      have hP9 := hP.sub (ws' := [(ra0, .inr (5, sr_ fa fb oa)), (fb, .inr (3, fg_ kd (nI np) (nI k) qx qy qs pr sc qt qh mn qm qd)), (qx, .inl (cI, cx, .inl xs)), (qy, .inl (cI, cx, .inl ys)), (oa, .inr (4, ov_ k1 k2 ba ca qm0 fr)), (ot, .inl (cJ, 1, .inr (.inl ou)))]) [1, 2, 3, 4, 5, 0] rfl
      have hD9 := hD.sub (ws' := [(ra0, .inr (5, sr_ fa fb oa)), (fb, .inr (3, fg_ kd (nI np) (nI k) qx qy qs pr sc qt qh mn qm qd)), (qx, .inl (cI, cx, .inl xs)), (qy, .inl (cI, cx, .inl ys)), (oa, .inr (4, ov_ k1 k2 ba ca qm0 fr)), (ot, .inl (cJ, 1, .inr (.inl ou)))]) [1, 2, 3, 4, 5, 0] (by decide) rfl
      exact W.iret (v := 2) hx hb hr (fun t ht hW => ⟨⟨2, (k, cx, xs, ys, pr, fr, ou), rfl, ⟨fun z => absurd hE (fun w => w.elim (fun q => q z.1) (fun q => q z.2.1)), fun _ => ⟨rfl, rfl, rfl, rfl, rfl, rfl, rfl⟩, fun z => absurd hE (fun w => w.elim (fun q => q z.1) (fun q => q z.2.1))⟩, qx, qy, by rw [ht]; exact hP9, va_K.moved hW.alike hK, hD9⟩, hS.F ht⟩) hS.2.2 dL_point_22
    · refine vx_catch hown [⟨0, 12, 15, 13⟩, ⟨0, 12, 19, 15⟩] ⟨0, 12, 23, 21⟩ [] hT (fun z hz => by
          rcases List.mem_cons.mp hz with rfl | hz
          · exact Or.inr ⟨by decide, "java/lang/IndexOutOfBoundsException", hts (.classLink RL 13 "java/lang/IndexOutOfBoundsException") (List.mem_of_getElem? (i := 1) rfl), hev.1.2.2.2.2.2.2.1⟩
          rcases List.mem_cons.mp hz with rfl | hz
          · exact Or.inr ⟨by decide, "java/lang/IllegalArgumentException", hts (.classLink RL 15 "java/lang/IllegalArgumentException") (List.mem_of_getElem? (i := 2) rfl), hev.1.2.2.2.2.2.2.2⟩
          · exact absurd hz (by simp)) rfl (by decide) (hts (.classLink RL 21 "java/lang/IllegalStateException") (List.mem_of_getElem? (i := 3) rfl)) (va_Nw.use rfl (hev.1.1 _ (List.mem_of_getElem? (i := 2) rfl))) hce hcv hcl ?_
      show W p l e _ s m _ below meth c H locs (0 + 4) (0 + (12 + 4 * cx)) _ (F0 m 23 ls [.ref q9])
      refine lv_astore (lv' := [(5, .ref q9), (0, .ref ra0), (1, .int 1), (2, .int x1), (3, .int y1), (4, .ref ot)]) hx hb dL_point_23 hl (by decide) rfl (fun ls hl => ?_)
      refine lv_iconst (v := 3) hx hb dL_point_25 (by decide) ?_
      refine W.widen (k := 4) (n := (12 + 4 * cx)) (by omega) (by omega) ?_
      have hP9 := hP.sub (ws' := [(ra0, .inr (5, sr_ fa fb oa)), (fb, .inr (3, fg_ kd (nI np) (nI k) qx qy qs pr sc qt qh mn qm qd)), (qx, .inl (cI, cx, .inl xs)), (qy, .inl (cI, cx, .inl ys)), (oa, .inr (4, ov_ k1 k2 ba ca qm0 fr)), (ot, .inl (cJ, 1, .inr (.inl ou)))]) [1, 2, 3, 4, 5, 0] rfl
      have hD9 := hD.sub (ws' := [(ra0, .inr (5, sr_ fa fb oa)), (fb, .inr (3, fg_ kd (nI np) (nI k) qx qy qs pr sc qt qh mn qm qd)), (qx, .inl (cI, cx, .inl xs)), (qy, .inl (cI, cx, .inl ys)), (oa, .inr (4, ov_ k1 k2 ba ca qm0 fr)), (ot, .inl (cJ, 1, .inr (.inl ou)))]) [1, 2, 3, 4, 5, 0] (by decide) rfl
      exact W.iret (v := 3) hx hb hr (fun t ht hW => ⟨⟨3, (k, cx, xs, ys, pr, fr, ou), rfl, ⟨fun z => absurd hE.2.2 (fun w => w.elim z.2.2 (fun q => q hk)), fun z => absurd z (fun w => w.elim (fun q => q hE.1) (fun q => q hE.2.1)), fun _ => ⟨rfl, rfl, rfl, rfl, rfl, rfl, rfl⟩⟩, qx, qy, by rw [ht]; exact hP9, va_K.moved hW.alike hK, hD9⟩, hS.F ht⟩) hS.2.2 dL_point_26
  · obtain ⟨xs3, ys3⟩ := u
    obtain ⟨qx3, qy3, hP1, hK1, hD1⟩ := hB
    rw [ht] at hP1
    dsimp only at hw
    obtain ⟨hP, hD⟩ := va_join (wr := [(ot, .inl (cJ, 1, .inr (.inl ou)))]) (w1 := [(ra0, .inr (5, sr_ fa fb oa)), (fb, .inr (3, fg_ kd (nI np) (nI (k + 1)) qx3 qy3 qs 0 sc qt qh mn qm qd)), (qx3, .inl (cI, gcap_ k cx, .inl xs3)), (qy3, .inl (cI, gcap_ k cx, .inl ys3)), (oa, .inr (4, ov_ k1 k2 ba ca qm0 0))]) hP hD [0, 1, 2, 3, 4] [5] rfl rfl (by decide) (by decide) hk1 hFc hP1 hD1
    clear hPc hDc hFc hP1 hD1 hK1 hk1 hz1 hvm ht
    generalize H1 = H at hP hS ⊢
    have hP : va_P g vwCl [(ot, .inl (cJ, 1, .inr (.inl ou))), (ra0, .inr (5, sr_ fa fb oa)), (fb, .inr (3, fg_ kd (nI np) (nI (k + 1)) qx3 qy3 qs 0 sc qt qh mn qm qd)), (qx3, .inl (cI, gcap_ k cx, .inl xs3)), (qy3, .inl (cI, gcap_ k cx, .inl ys3)), (oa, .inr (4, ov_ k1 k2 ba ca qm0 0))] H := hP
    have hD : va_D A [(ot, .inl (cJ, 1, .inr (.inl ou))), (ra0, .inr (5, sr_ fa fb oa)), (fb, .inr (3, fg_ kd (nI np) (nI (k + 1)) qx3 qy3 qs 0 sc qt qh mn qm qd)), (qx3, .inl (cI, gcap_ k cx, .inl xs3)), (qy3, .inl (cI, gcap_ k cx, .inl ys3)), (oa, .inr (4, ov_ k1 k2 ba ca qm0 0))] := hD
    refine lv_i2l hx hb dL_point_10 rfl ?_
    refine va_last (D := g) hx hb hK hP hD hS 0 1 rfl rfl (by unfold vp_in; decide) dL_point_11 (fun H locs hP hD hS => ?_)
    rw [show (0 : Int32).toNatClampNeg = 0 from rfl] at hP hD
    have hP : va_P g vwCl [(ot, .inl (cJ, 1, .inr (.inl (vp_updL ou 0 r1.toInt64)))), (ra0, .inr (5, sr_ fa fb oa)), (fb, .inr (3, fg_ kd (nI np) (nI (k + 1)) qx3 qy3 qs 0 sc qt qh mn qm qd)), (qx3, .inl (cI, gcap_ k cx, .inl xs3)), (qy3, .inl (cI, gcap_ k cx, .inl ys3)), (oa, .inr (4, ov_ k1 k2 ba ca qm0 0))] H := hP
    have hD : va_D A [(ot, .inl (cJ, 1, .inr (.inl (vp_updL ou 0 r1.toInt64)))), (ra0, .inr (5, sr_ fa fb oa)), (fb, .inr (3, fg_ kd (nI np) (nI (k + 1)) qx3 qy3 qs 0 sc qt qh mn qm qd)), (qx3, .inl (cI, gcap_ k cx, .inl xs3)), (qy3, .inl (cI, gcap_ k cx, .inl ys3)), (oa, .inr (4, ov_ k1 k2 ba ca qm0 0))] := hD
    refine lv_goto (tgt := 27) hx hb dL_point_12 (by decide) ?_
    refine lv_iconst (v := 0) hx hb dL_point_27 (by decide) ?_
    refine W.widen (k := 4) (n := (12 + 4 * cx)) (by omega) (by omega) ?_
    have hP9 := hP.sub (ws' := [(ra0, .inr (5, sr_ fa fb oa)), (fb, .inr (3, fg_ kd (nI np) (nI (k + 1)) qx3 qy3 qs 0 sc qt qh mn qm qd)), (qx3, .inl (cI, (gcap_ k cx), .inl xs3)), (qy3, .inl (cI, (gcap_ k cx), .inl ys3)), (oa, .inr (4, ov_ k1 k2 ba ca qm0 0)), (ot, .inl (cJ, 1, .inr (.inl (vp_updL ou 0 r1.toInt64))))]) [1, 2, 3, 4, 5, 0] rfl
    have hD9 := hD.sub (ws' := [(ra0, .inr (5, sr_ fa fb oa)), (fb, .inr (3, fg_ kd (nI np) (nI (k + 1)) qx3 qy3 qs 0 sc qt qh mn qm qd)), (qx3, .inl (cI, (gcap_ k cx), .inl xs3)), (qy3, .inl (cI, (gcap_ k cx), .inl ys3)), (oa, .inr (4, ov_ k1 k2 ba ca qm0 0)), (ot, .inl (cJ, 1, .inr (.inl (vp_updL ou 0 r1.toInt64))))]) [1, 2, 3, 4, 5, 0] (by decide) rfl
    exact W.iret (v := 0) hx hb hr (fun t ht hW => ⟨⟨0, (k + 1, gcap_ k cx, xs3, ys3, 0, 0, vp_updL ou 0 r1.toInt64), rfl, ⟨fun _ => ⟨rfl, rfl, rfl, hw.2.2.1, hw.2.2.2.1, hw.2.2.2.2, rfl, rfl, by rw [pk_uLs, hw.2.1]⟩, fun z => z.elim (fun q => absurd hw.1.1 q) (fun q => absurd hw.1.2.1 q), fun z => absurd z.2.2 hw.1.2.2.1⟩, qx3, qy3, by rw [ht]; exact hP9, va_K.moved hW.alike hK, hD9⟩, hS.F ht⟩) hS.2.2 dL_point_28

set_option maxHeartbeats 1000000 in
set_option maxRecDepth 100000 in
theorem kL_count1 (l : Launch) (g : va_G) (cI cJ cZ : ClassId) (sz : Nat) (hlt : l.stackTraces = false) (ra0 : Nat) (fa : Nat) (fb : Nat) (oa : Nat) (kd : Int32) (pn : Int32) (pt : Int32) (qx : Nat) (qy : Nat) (qs : Nat) (pr : Int32) (sc : Int32) (qt : Nat) (qh : Nat) (mn : Int32) (qm : Nat) (qd : Nat) (wv : Int32) (ot : Nat) (ou : Nat → Int64)  : Met l yL_count wsL_count ({ frames := 8, cells := 2, slots := 12, locals := 126 }) (pce_ g cI cJ cZ [.ref ra0, .int 1, .int wv, .ref ot] [(ra0, .inr (5, sr_ fa fb oa)), (fb, .inr (3, fg_ kd pn pt qx qy qs pr sc qt qh mn qm qd)), (ot, .inl (cJ, 1, .inr (.inl ou)))] sz) (va_Qi (fun (r : Int32) (ou9 : (Nat → Int64)) => (¬ wi_ wv 0 2 = 0 → r = 0 ∧ ou9 0 = (if wv = 0 then kd else if wv = 1 then pn else pt).toInt64) ∧ (wi_ wv 0 2 = 0 → r = 1)) (fun (ou9 : (Nat → Int64)) t => wd_ g cI cJ cZ (va_A [(ra0, .inr (5, sr_ fa fb oa)), (fb, .inr (3, fg_ kd pn pt qx qy qs pr sc qt qh mn qm qd)), (ot, .inl (cJ, 1, .inr (.inl ou)))] sz) [(ra0, .inr (5, sr_ fa fb oa)), (fb, .inr (3, fg_ kd pn pt qx qy qs pr sc qt qh mn qm qd)), (ot, .inl (cJ, 1, .inr (.inl ou9)))] t) (va_A [(ra0, .inr (5, sr_ fa fb oa)), (fb, .inr (3, fg_ kd pn pt qx qy qs pr sc qt qh mn qm qd)), (ot, .inl (cJ, 1, .inr (.inl ou)))] sz)) (2) (12) (va_A [(ra0, .inr (5, sr_ fa fb oa)), (fb, .inr (3, fg_ kd pn pt qx qy qs pr sc qt qh mn qm qd)), (ot, .inl (cJ, 1, .inr (.inl ou)))] sz) := by
  refine mo_ofWH (hh := [(0, 10, 13, 13)]) (cc := cL_count) (maxL := 5) (ret := (some .int)) (by decide) rfl ?_
  intro p e s m args below meth c s₁ B hml hv
  obtain ⟨rfl, ⟨hsz, hP, hK, hD0⟩, hev⟩ := hv
  have hx := B.exec
  have hb := B.bytes
  have hr := B.returns
  have hts := atoms_spec (ws := wsL_count) B.pre
  have hown : s.vm.findClass RL = some m.cls := findClass_of_methodNamed B.named
  have hlocks := B.notSynchronized
  have hT : c.exceptionTable.toList = tableOf [(0, 10, 13, 13)] := vx_table (x := yL_count) B (hts _ List.mem_cons_self)
  subst hsz
  have hD := hD0.self (sz := s.heap.size)
  generalize hAe : va_A [(ra0, .inr (5, sr_ fa fb oa)), (fb, .inr (3, fg_ kd pn pt qx qy qs pr sc qt qh mn qm qd)), (ot, .inl (cJ, 1, .inr (.inl ou)))] s.heap.size = A at hD hev ⊢
  have hA : ∀ q : Nat, s.heap.size ≤ q → A q := fun q h => by rw [← hAe]; exact Or.inr h
  have hS : va_S A s.heap s.heap [] := va_S.rf
  have hP : va_P g vwCl [(ra0, .inr (5, sr_ fa fb oa)), (fb, .inr (3, fg_ kd pn pt qx qy qs pr sc qt qh mn qm qd)), (ot, .inl (cJ, 1, .inr (.inl ou)))] s.heap := hP
  have hl := lv_entry ([.ref ra0, .int 1, .int wv, .ref ot]) (n := 5) (Nat.le_of_ble_eq_true rfl)
  rw [lg_entry_eq]
  generalize (lg_sl ([.ref ra0, .int 1, .int wv, .ref ot]) ++ List.replicate (5 - (lg_sl ([.ref ra0, .int 1, .int wv, .ref ot])).length) Slot.unset).toArray = ls at hl ⊢
  have hl : lv_has ls 5 [(0, .ref ra0), (1, .int 1), (2, .int wv), (3, .ref ot)] := hl
  have hH0 : s.heap = s.heap := rfl
  refine lv_aload_n hx hb dL_count_0 rfl (lv_at hl 3 rfl) ?_
  refine lv_iconst (v := 0) hx hb dL_count_1 (by decide) ?_
  refine lv_aload_n hx hb dL_count_2 rfl (lv_at hl 0 rfl) ?_
  refine lv_iload_n hx hb dL_count_3 rfl (lv_at hl 1 rfl) ?_
  refine lv_iload_n hx hb dL_count_4 rfl (lv_at hl 2 rfl) ?_
  have hPc := hP.sub (ws' := [(ra0, .inr (5, sr_ fa fb oa)), (fb, .inr (3, fg_ kd pn pt qx qy qs pr sc qt qh mn qm qd))]) [0, 1] rfl
  have hDc := hD.sub (ws' := [(ra0, .inr (5, sr_ fa fb oa)), (fb, .inr (3, fg_ kd pn pt qx qy qs pr sc qt qh mn qm qd))]) [0, 1] (by decide) rfl
  have hFc := va_free (wc := [(ra0, .inr (5, sr_ fa fb oa)), (fb, .inr (3, fg_ kd pn pt qx qy qs pr sc qt qh mn qm qd))]) hD hS hA [0, 1] rfl
  refine vx_calli (vx_runV (As := [.int 1, .int wv]) (rest := [.int 0, .ref ot]) ⟨hx, hb, hml, hown, hts⟩ (kX5_count1 l g cI cJ cZ s.heap.size hlt ra0 fa fb oa kd pn pt qx qy qs pr sc qt qh mn qm qd wv) (cwV 2 hts gL_count_X5_count rfl rfl rfl (by decide +kernel) ⟨Nat.le_of_ble_eq_true rfl, Nat.le_of_ble_eq_true rfl⟩) (pve_ hev hS hFc hK hPc hDc (va_recv hK hPc (ci := 5) (q0 := 0) rfl rfl)) rfl rfl hl.1 rfl (lv_room (Nat.le_of_ble_eq_true rfl)) dL_count_5 ⟨by show 0 + 2 ≤ 2; omega, by show 0 + 12 ≤ 12; omega⟩) hS (fun q _ h => hFc q h) hFc (fun q _ h => hFc q h) (fun E ce q9 u t H1 locs ht hvm _ hBX hz1 hk1 hS hce hcv hcl => ?_) (fun r1 u t H1 locs ht hvm hw hB hz1 hk1 hS => ?_)
  · obtain ⟨hE, hP1, hK1, hD1⟩ := hBX
    rw [ht] at hP1
    obtain ⟨hP, hD⟩ := va_join (wr := [(ot, .inl (cJ, 1, .inr (.inl ou)))]) (w1 := [(ra0, .inr (5, sr_ fa fb oa)), (fb, .inr (3, fg_ kd pn pt qx qy qs pr sc qt qh mn qm qd))]) hP hD [0, 1] [2] rfl rfl (by decide) (by decide) hk1 hFc hP1 hD1
    clear hPc hDc hFc hP1 hD1 hK1 hk1 hz1 hvm ht
    generalize H1 = H at hP hS hce ⊢
    have hP : va_P g vwCl [(ot, .inl (cJ, 1, .inr (.inl ou))), (ra0, .inr (5, sr_ fa fb oa)), (fb, .inr (3, fg_ kd pn pt qx qy qs pr sc qt qh mn qm qd))] H := hP
    have hD : va_D A [(ot, .inl (cJ, 1, .inr (.inl ou))), (ra0, .inr (5, sr_ fa fb oa)), (fb, .inr (3, fg_ kd pn pt qx qy qs pr sc qt qh mn qm qd))] := hD
    obtain ⟨rfl, hE⟩ := hE
    refine vx_catch hown [] ⟨0, 10, 13, 13⟩ [] hT (fun z hz => absurd hz (by simp)) rfl (by decide) (hts (.classLink RL 13 "java/lang/IndexOutOfBoundsException") (List.mem_of_getElem? (i := 1) rfl)) (va_Nw.use rfl (hev.1.1 _ (List.mem_of_getElem? (i := 0) rfl))) hce hcv hcl ?_
    show W p l e _ s m _ below meth c H locs (0 + 2) (0 + 12) _ (F0 m 13 ls [.ref q9])
    refine lv_astore (lv' := [(4, .ref q9), (0, .ref ra0), (1, .int 1), (2, .int wv), (3, .ref ot)]) hx hb dL_count_13 hl (by decide) rfl (fun ls hl => ?_)
    refine lv_iconst (v := 1) hx hb dL_count_15 (by decide) ?_
    refine W.widen (k := 2) (n := 12) (by omega) (by omega) ?_
    have hP9 := hP.sub (ws' := [(ra0, .inr (5, sr_ fa fb oa)), (fb, .inr (3, fg_ kd pn pt qx qy qs pr sc qt qh mn qm qd)), (ot, .inl (cJ, 1, .inr (.inl ou)))]) [1, 2, 0] rfl
    have hD9 := hD.sub (ws' := [(ra0, .inr (5, sr_ fa fb oa)), (fb, .inr (3, fg_ kd pn pt qx qy qs pr sc qt qh mn qm qd)), (ot, .inl (cJ, 1, .inr (.inl ou)))]) [1, 2, 0] (by decide) rfl
    exact W.iret (v := 1) hx hb hr (fun t ht hW => ⟨⟨1, ou, rfl, ⟨fun z => absurd hE z, fun _ => rfl⟩, by rw [ht]; exact hP9, va_K.moved hW.alike hK, hD9⟩, hS.F ht⟩) hS.2.2 dL_count_16
  · obtain ⟨hP1, hK1, hD1⟩ := hB
    rw [ht] at hP1
    obtain ⟨hP, hD⟩ := va_join (wr := [(ot, .inl (cJ, 1, .inr (.inl ou)))]) (w1 := [(ra0, .inr (5, sr_ fa fb oa)), (fb, .inr (3, fg_ kd pn pt qx qy qs pr sc qt qh mn qm qd))]) hP hD [0, 1] [2] rfl rfl (by decide) (by decide) hk1 hFc hP1 hD1
    clear hPc hDc hFc hP1 hD1 hK1 hk1 hz1 hvm ht
    generalize H1 = H at hP hS ⊢
    have hP : va_P g vwCl [(ot, .inl (cJ, 1, .inr (.inl ou))), (ra0, .inr (5, sr_ fa fb oa)), (fb, .inr (3, fg_ kd pn pt qx qy qs pr sc qt qh mn qm qd))] H := hP
    have hD : va_D A [(ot, .inl (cJ, 1, .inr (.inl ou))), (ra0, .inr (5, sr_ fa fb oa)), (fb, .inr (3, fg_ kd pn pt qx qy qs pr sc qt qh mn qm qd))] := hD
    refine lv_i2l hx hb dL_count_8 rfl ?_
    refine va_last (D := g) hx hb hK hP hD hS 0 1 rfl rfl (by unfold vp_in; decide) dL_count_9 (fun H locs hP hD hS => ?_)
    rw [show (0 : Int32).toNatClampNeg = 0 from rfl] at hP hD
    have hP : va_P g vwCl [(ot, .inl (cJ, 1, .inr (.inl (vp_updL ou 0 r1.toInt64)))), (ra0, .inr (5, sr_ fa fb oa)), (fb, .inr (3, fg_ kd pn pt qx qy qs pr sc qt qh mn qm qd))] H := hP
    have hD : va_D A [(ot, .inl (cJ, 1, .inr (.inl (vp_updL ou 0 r1.toInt64)))), (ra0, .inr (5, sr_ fa fb oa)), (fb, .inr (3, fg_ kd pn pt qx qy qs pr sc qt qh mn qm qd))] := hD
    refine lv_goto (tgt := 17) hx hb dL_count_10 (by decide) ?_
    refine lv_iconst (v := 0) hx hb dL_count_17 (by decide) ?_
    refine W.widen (k := 2) (n := 12) (by omega) (by omega) ?_
    have hP9 := hP.sub (ws' := [(ra0, .inr (5, sr_ fa fb oa)), (fb, .inr (3, fg_ kd pn pt qx qy qs pr sc qt qh mn qm qd)), (ot, .inl (cJ, 1, .inr (.inl (vp_updL ou 0 r1.toInt64))))]) [1, 2, 0] rfl
    have hD9 := hD.sub (ws' := [(ra0, .inr (5, sr_ fa fb oa)), (fb, .inr (3, fg_ kd pn pt qx qy qs pr sc qt qh mn qm qd)), (ot, .inl (cJ, 1, .inr (.inl (vp_updL ou 0 r1.toInt64))))]) [1, 2, 0] (by decide) rfl
    exact W.iret (v := 0) hx hb hr (fun t ht hW => ⟨⟨0, vp_updL ou 0 r1.toInt64, rfl, ⟨fun _ => ⟨rfl, by rw [pk_uLs, hw.2]⟩, fun z => absurd z hw.1⟩, by rw [ht]; exact hP9, va_K.moved hW.alike hK, hD9⟩, hS.F ht⟩) hS.2.2 dL_count_18

set_option maxHeartbeats 1000000 in
set_option maxRecDepth 100000 in
theorem kL_locate1 (l : Launch) (g : va_G) (cI cJ cZ : ClassId) (sz : Nat) (hlt : l.stackTraces = false) (ra0 : Nat) (fa : Nat) (fb : Nat) (oa : Nat) (kd1 : Int32) (pp1 : Nat) (nn1 : Nat) (qx1 : Nat) (qy1 : Nat) (qs1 : Nat) (pr1 : Int32) (sc1 : Int32) (qt1 : Nat) (qh1 : Nat) (mn1 : Int32) (qm1 : Nat) (qd1 : Nat) (cx1 : Nat) (xs1 : Nat → Int32) (ys1 : Nat → Int32) (cp1 : Nat) (st1 : Nat → Int32) (ct1 : Nat) (ta1 : Nat → Int32) (he1 : Nat → Int32) (ma1 : Nat → Int32) (sd1 : Nat → Int64) (sn1 : Nat → Nat) (x1 : Int32) (y1 : Int32) (ot : Nat) (ou : Nat → Int64) (ha1 : ct1 < 100000) (hb1 : cx1 < 100000) (hj1 : cp1 < 100000) (hd1 : pp1 ≤ cp1) (he01 : nn1 ≤ cx1) (hf1 : sta_ sn1 pp1 nn1 st1) (hg1 : pr1 = 0 ∨ (pr1 = 1 ∧ cx1 ≤ ct1 ∧ sc1 = nI (prS_ kd1 xs1 ys1 sn1 pp1 nn1 pp1).length ∧ mn1 = nI (prM_ kd1 xs1 ys1 sn1 pp1 nn1 pp1).length ∧ sl_ ta1 he1 (prS_ kd1 xs1 ys1 sn1 pp1 nn1 pp1) ∧ al_ ma1 (prM_ kd1 xs1 ys1 sn1 pp1 nn1 pp1))) (hk1 : nn1 < 2000) (g0 : 16 ≤ cx1) : Met l yL_locate wsL_locate ({ frames := 8, cells := 6, slots := 12 + 4 * cx1, locals := 127 }) (pce_ g cI cJ cZ [.ref ra0, .int 1, .int x1, .int y1, .ref ot] [(ra0, .inr (5, sr_ fa fb oa)), (fb, .inr (3, fg_ kd1 (nI pp1) (nI nn1) qx1 qy1 qs1 pr1 sc1 qt1 qh1 mn1 qm1 qd1)), (qx1, .inl (cI, cx1, .inl xs1)), (qy1, .inl (cI, cx1, .inl ys1)), (qs1, .inl (cI, cp1, .inl st1)), (qt1, .inl (cI, ct1, .inl ta1)), (qh1, .inl (cI, ct1, .inl he1)), (qm1, .inl (cI, ct1, .inl ma1)), (qd1, .inl (cJ, ct1, .inr (.inl sd1))), (ot, .inl (cJ, 1, .inr (.inl ou)))] sz) (va_Qi (fun (r : Int32) (u : Nat × (Nat → Int32) × (Nat → Int32) × (Nat → Int32) × (Nat → Int64) × Int32 × Int32 × Int32 × (Nat → Int64)) => match u with | (ct9, ta9, he9, ma9, sd9, pr9, sc9, mn9, ou9) => ((far_ x1 = 0 ∧ far_ y1 = 0) → r = 0 ∧ ou9 0 = (whs_ kd1 xs1 ys1 (prS_ kd1 xs1 ys1 sn1 pp1 nn1 pp1) (prM_ kd1 xs1 ys1 sn1 pp1 nn1 pp1) x1 y1).toInt64) ∧ ((¬ far_ x1 = 0 ∨ ¬ far_ y1 = 0) → r = 2) ∧ (ct9 = ct1 ∨ ct9 = cx1) ∧ (pr9 = 0 ∨ (pr9 = 1 ∧ cx1 ≤ ct9 ∧ sc9 = nI (prS_ kd1 xs1 ys1 sn1 pp1 nn1 pp1).length ∧ mn9 = nI (prM_ kd1 xs1 ys1 sn1 pp1 nn1 pp1).length ∧ sl_ ta9 he9 (prS_ kd1 xs1 ys1 sn1 pp1 nn1 pp1) ∧ al_ ma9 (prM_ kd1 xs1 ys1 sn1 pp1 nn1 pp1)))) (fun (u : Nat × (Nat → Int32) × (Nat → Int32) × (Nat → Int32) × (Nat → Int64) × Int32 × Int32 × Int32 × (Nat → Int64)) t => match u with | (ct9, ta9, he9, ma9, sd9, pr9, sc9, mn9, ou9) => ∃ (qt9 : Nat) (qh9 : Nat) (qm9 : Nat) (qd9 : Nat), wd_ g cI cJ cZ (va_A [(ra0, .inr (5, sr_ fa fb oa)), (fb, .inr (3, fg_ kd1 (nI pp1) (nI nn1) qx1 qy1 qs1 pr1 sc1 qt1 qh1 mn1 qm1 qd1)), (qx1, .inl (cI, cx1, .inl xs1)), (qy1, .inl (cI, cx1, .inl ys1)), (qs1, .inl (cI, cp1, .inl st1)), (qt1, .inl (cI, ct1, .inl ta1)), (qh1, .inl (cI, ct1, .inl he1)), (qm1, .inl (cI, ct1, .inl ma1)), (qd1, .inl (cJ, ct1, .inr (.inl sd1))), (ot, .inl (cJ, 1, .inr (.inl ou)))] sz) [(ra0, .inr (5, sr_ fa fb oa)), (fb, .inr (3, fg_ kd1 (nI pp1) (nI nn1) qx1 qy1 qs1 pr9 sc9 qt9 qh9 mn9 qm9 qd9)), (qx1, .inl (cI, cx1, .inl xs1)), (qy1, .inl (cI, cx1, .inl ys1)), (qs1, .inl (cI, cp1, .inl st1)), (qt9, .inl (cI, ct9, .inl ta9)), (qh9, .inl (cI, ct9, .inl he9)), (qm9, .inl (cI, ct9, .inl ma9)), (qd9, .inl (cJ, ct9, .inr (.inl sd9))), (ot, .inl (cJ, 1, .inr (.inl ou9)))] t) (va_A [(ra0, .inr (5, sr_ fa fb oa)), (fb, .inr (3, fg_ kd1 (nI pp1) (nI nn1) qx1 qy1 qs1 pr1 sc1 qt1 qh1 mn1 qm1 qd1)), (qx1, .inl (cI, cx1, .inl xs1)), (qy1, .inl (cI, cx1, .inl ys1)), (qs1, .inl (cI, cp1, .inl st1)), (qt1, .inl (cI, ct1, .inl ta1)), (qh1, .inl (cI, ct1, .inl he1)), (qm1, .inl (cI, ct1, .inl ma1)), (qd1, .inl (cJ, ct1, .inr (.inl sd1))), (ot, .inl (cJ, 1, .inr (.inl ou)))] sz)) (6) (12 + 4 * cx1) (va_A [(ra0, .inr (5, sr_ fa fb oa)), (fb, .inr (3, fg_ kd1 (nI pp1) (nI nn1) qx1 qy1 qs1 pr1 sc1 qt1 qh1 mn1 qm1 qd1)), (qx1, .inl (cI, cx1, .inl xs1)), (qy1, .inl (cI, cx1, .inl ys1)), (qs1, .inl (cI, cp1, .inl st1)), (qt1, .inl (cI, ct1, .inl ta1)), (qh1, .inl (cI, ct1, .inl he1)), (qm1, .inl (cI, ct1, .inl ma1)), (qd1, .inl (cJ, ct1, .inr (.inl sd1))), (ot, .inl (cJ, 1, .inr (.inl ou)))] sz) := by
  refine mo_ofWH (hh := [(0, 12, 15, 13), (0, 12, 19, 15)]) (cc := cL_locate) (maxL := 6) (ret := (some .int)) (by decide) rfl ?_
  intro p e s m args below meth c s₁ B hml hv
  obtain ⟨rfl, ⟨hsz, hP, hK, hD0⟩, hev⟩ := hv
  have hx := B.exec
  have hb := B.bytes
  have hr := B.returns
  have hts := atoms_spec (ws := wsL_locate) B.pre
  have hown : s.vm.findClass RL = some m.cls := findClass_of_methodNamed B.named
  have hlocks := B.notSynchronized
  have hT : c.exceptionTable.toList = tableOf [(0, 12, 15, 13), (0, 12, 19, 15)] := vx_table (x := yL_locate) B (hts _ List.mem_cons_self)
  subst hsz
  have hD := hD0.self (sz := s.heap.size)
  generalize hAe : va_A [(ra0, .inr (5, sr_ fa fb oa)), (fb, .inr (3, fg_ kd1 (nI pp1) (nI nn1) qx1 qy1 qs1 pr1 sc1 qt1 qh1 mn1 qm1 qd1)), (qx1, .inl (cI, cx1, .inl xs1)), (qy1, .inl (cI, cx1, .inl ys1)), (qs1, .inl (cI, cp1, .inl st1)), (qt1, .inl (cI, ct1, .inl ta1)), (qh1, .inl (cI, ct1, .inl he1)), (qm1, .inl (cI, ct1, .inl ma1)), (qd1, .inl (cJ, ct1, .inr (.inl sd1))), (ot, .inl (cJ, 1, .inr (.inl ou)))] s.heap.size = A at hD hev ⊢
  have hA : ∀ q : Nat, s.heap.size ≤ q → A q := fun q h => by rw [← hAe]; exact Or.inr h
  have hS : va_S A s.heap s.heap [] := va_S.rf
  have hP : va_P g vwCl [(ra0, .inr (5, sr_ fa fb oa)), (fb, .inr (3, fg_ kd1 (nI pp1) (nI nn1) qx1 qy1 qs1 pr1 sc1 qt1 qh1 mn1 qm1 qd1)), (qx1, .inl (cI, cx1, .inl xs1)), (qy1, .inl (cI, cx1, .inl ys1)), (qs1, .inl (cI, cp1, .inl st1)), (qt1, .inl (cI, ct1, .inl ta1)), (qh1, .inl (cI, ct1, .inl he1)), (qm1, .inl (cI, ct1, .inl ma1)), (qd1, .inl (cJ, ct1, .inr (.inl sd1))), (ot, .inl (cJ, 1, .inr (.inl ou)))] s.heap := hP
  have hl := lv_entry ([.ref ra0, .int 1, .int x1, .int y1, .ref ot]) (n := 6) (Nat.le_of_ble_eq_true rfl)
  rw [lg_entry_eq]
  generalize (lg_sl ([.ref ra0, .int 1, .int x1, .int y1, .ref ot]) ++ List.replicate (6 - (lg_sl ([.ref ra0, .int 1, .int x1, .int y1, .ref ot])).length) Slot.unset).toArray = ls at hl ⊢
  have hl : lv_has ls 6 [(0, .ref ra0), (1, .int 1), (2, .int x1), (3, .int y1), (4, .ref ot)] := hl
  have hH0 : s.heap = s.heap := rfl
  refine lv_aload hx hb dL_locate_0 (lv_at hl 4 rfl) ?_
  refine lv_iconst (v := 0) hx hb dL_locate_2 (by decide) ?_
  refine lv_aload_n hx hb dL_locate_3 rfl (lv_at hl 0 rfl) ?_
  refine lv_iload_n hx hb dL_locate_4 rfl (lv_at hl 1 rfl) ?_
  refine lv_iload_n hx hb dL_locate_5 rfl (lv_at hl 2 rfl) ?_
  refine lv_iload_n hx hb dL_locate_6 rfl (lv_at hl 3 rfl) ?_
  have hPc := hP.sub (ws' := [(ra0, .inr (5, sr_ fa fb oa)), (fb, .inr (3, fg_ kd1 (nI pp1) (nI nn1) qx1 qy1 qs1 pr1 sc1 qt1 qh1 mn1 qm1 qd1)), (qx1, .inl (cI, cx1, .inl xs1)), (qy1, .inl (cI, cx1, .inl ys1)), (qs1, .inl (cI, cp1, .inl st1)), (qt1, .inl (cI, ct1, .inl ta1)), (qh1, .inl (cI, ct1, .inl he1)), (qm1, .inl (cI, ct1, .inl ma1)), (qd1, .inl (cJ, ct1, .inr (.inl sd1)))]) [0, 1, 2, 3, 4, 5, 6, 7, 8] rfl
  have hDc := hD.sub (ws' := [(ra0, .inr (5, sr_ fa fb oa)), (fb, .inr (3, fg_ kd1 (nI pp1) (nI nn1) qx1 qy1 qs1 pr1 sc1 qt1 qh1 mn1 qm1 qd1)), (qx1, .inl (cI, cx1, .inl xs1)), (qy1, .inl (cI, cx1, .inl ys1)), (qs1, .inl (cI, cp1, .inl st1)), (qt1, .inl (cI, ct1, .inl ta1)), (qh1, .inl (cI, ct1, .inl he1)), (qm1, .inl (cI, ct1, .inl ma1)), (qd1, .inl (cJ, ct1, .inr (.inl sd1)))]) [0, 1, 2, 3, 4, 5, 6, 7, 8] (by decide) rfl
  have hFc := va_free (wc := [(ra0, .inr (5, sr_ fa fb oa)), (fb, .inr (3, fg_ kd1 (nI pp1) (nI nn1) qx1 qy1 qs1 pr1 sc1 qt1 qh1 mn1 qm1 qd1)), (qx1, .inl (cI, cx1, .inl xs1)), (qy1, .inl (cI, cx1, .inl ys1)), (qs1, .inl (cI, cp1, .inl st1)), (qt1, .inl (cI, ct1, .inl ta1)), (qh1, .inl (cI, ct1, .inl he1)), (qm1, .inl (cI, ct1, .inl ma1)), (qd1, .inl (cJ, ct1, .inr (.inl sd1)))]) hD hS hA [0, 1, 2, 3, 4, 5, 6, 7, 8] rfl
  refine vx_calli (vx_runV (As := [.int 1, .int x1, .int y1]) (rest := [.int 0, .ref ot]) ⟨hx, hb, hml, hown, hts⟩ (kX5_locate1 l g cI cJ cZ s.heap.size hlt ra0 fa fb oa kd1 pp1 nn1 qx1 qy1 qs1 pr1 sc1 qt1 qh1 mn1 qm1 qd1 cx1 xs1 ys1 cp1 st1 ct1 ta1 he1 ma1 sd1 sn1 x1 y1 ha1 hb1 hj1 hd1 he01 hf1 hg1 hk1 g0) (cwV 3 hts gL_locate_X5_locate rfl rfl rfl (by decide +kernel) ⟨Nat.le_of_ble_eq_true rfl, Nat.le_of_ble_eq_true rfl⟩) (pve_ hev hS hFc hK hPc hDc (va_recv hK hPc (ci := 5) (q0 := 0) rfl rfl)) rfl rfl hl.1 rfl (lv_room (Nat.le_of_ble_eq_true rfl)) dL_locate_7 ⟨by show 0 + 6 ≤ 6; omega, by show 0 + (12 + 4 * cx1) ≤ 12 + 4 * cx1; omega⟩) hS (fun q _ h => hFc q h) hFc (fun q _ h => hFc q h) (fun E ce q9 u t H1 locs ht hvm _ hBX hz1 hk1 hS hce hcv hcl => ?_) (fun r1 u t H1 locs ht hvm hw hB hz1 hk1 hS => ?_)
  · obtain ⟨hE, hP1, hK1, hD1⟩ := hBX
    rw [ht] at hP1
    obtain ⟨hP, hD⟩ := va_join (wr := [(ot, .inl (cJ, 1, .inr (.inl ou)))]) (w1 := [(ra0, .inr (5, sr_ fa fb oa)), (fb, .inr (3, fg_ kd1 (nI pp1) (nI nn1) qx1 qy1 qs1 pr1 sc1 qt1 qh1 mn1 qm1 qd1)), (qx1, .inl (cI, cx1, .inl xs1)), (qy1, .inl (cI, cx1, .inl ys1)), (qs1, .inl (cI, cp1, .inl st1)), (qt1, .inl (cI, ct1, .inl ta1)), (qh1, .inl (cI, ct1, .inl he1)), (qm1, .inl (cI, ct1, .inl ma1)), (qd1, .inl (cJ, ct1, .inr (.inl sd1)))]) hP hD [0, 1, 2, 3, 4, 5, 6, 7, 8] [9] rfl rfl (by decide) (by decide) hk1 hFc hP1 hD1
    clear hPc hDc hFc hP1 hD1 hK1 hk1 hz1 hvm ht
    generalize H1 = H at hP hS hce ⊢
    have hP : va_P g vwCl [(ot, .inl (cJ, 1, .inr (.inl ou))), (ra0, .inr (5, sr_ fa fb oa)), (fb, .inr (3, fg_ kd1 (nI pp1) (nI nn1) qx1 qy1 qs1 pr1 sc1 qt1 qh1 mn1 qm1 qd1)), (qx1, .inl (cI, cx1, .inl xs1)), (qy1, .inl (cI, cx1, .inl ys1)), (qs1, .inl (cI, cp1, .inl st1)), (qt1, .inl (cI, ct1, .inl ta1)), (qh1, .inl (cI, ct1, .inl he1)), (qm1, .inl (cI, ct1, .inl ma1)), (qd1, .inl (cJ, ct1, .inr (.inl sd1)))] H := hP
    have hD : va_D A [(ot, .inl (cJ, 1, .inr (.inl ou))), (ra0, .inr (5, sr_ fa fb oa)), (fb, .inr (3, fg_ kd1 (nI pp1) (nI nn1) qx1 qy1 qs1 pr1 sc1 qt1 qh1 mn1 qm1 qd1)), (qx1, .inl (cI, cx1, .inl xs1)), (qy1, .inl (cI, cx1, .inl ys1)), (qs1, .inl (cI, cp1, .inl st1)), (qt1, .inl (cI, ct1, .inl ta1)), (qh1, .inl (cI, ct1, .inl he1)), (qm1, .inl (cI, ct1, .inl ma1)), (qd1, .inl (cJ, ct1, .inr (.inl sd1)))] := hD
    obtain ⟨rfl, hE⟩ := hE
    refine vx_catch hown [⟨0, 12, 15, 13⟩] ⟨0, 12, 19, 15⟩ [] hT (fun z hz => by
        rcases List.mem_cons.mp hz with rfl | hz
        · exact Or.inr ⟨by decide, "java/lang/IndexOutOfBoundsException", hts (.classLink RL 13 "java/lang/IndexOutOfBoundsException") (List.mem_of_getElem? (i := 1) rfl), hev.1.2.2.2.2.2.1⟩
        · exact absurd hz (by simp)) rfl (by decide) (hts (.classLink RL 15 "java/lang/IllegalArgumentException") (List.mem_of_getElem? (i := 2) rfl)) (va_Nw.use rfl (hev.1.1 _ (List.mem_of_getElem? (i := 1) rfl))) hce hcv hcl ?_
    show W p l e _ s m _ below meth c H locs (0 + 6) (0 + (12 + 4 * cx1)) _ (F0 m 19 ls [.ref q9])
    refine lv_astore (lv' := [(5, .ref q9), (0, .ref ra0), (1, .int 1), (2, .int x1), (3, .int y1), (4, .ref ot)]) hx hb dL_locate_19 hl (by decide) rfl (fun ls hl => ?_)
    refine lv_iconst (v := 2) hx hb dL_locate_21 (by decide) ?_
    refine W.widen (k := 6) (n := (12 + 4 * cx1)) (by omega) (by omega) ?_
    have hP9 := hP.sub (ws' := [(ra0, .inr (5, sr_ fa fb oa)), (fb, .inr (3, fg_ kd1 (nI pp1) (nI nn1) qx1 qy1 qs1 pr1 sc1 qt1 qh1 mn1 qm1 qd1)), (qx1, .inl (cI, cx1, .inl xs1)), (qy1, .inl (cI, cx1, .inl ys1)), (qs1, .inl (cI, cp1, .inl st1)), (qt1, .inl (cI, ct1, .inl ta1)), (qh1, .inl (cI, ct1, .inl he1)), (qm1, .inl (cI, ct1, .inl ma1)), (qd1, .inl (cJ, ct1, .inr (.inl sd1))), (ot, .inl (cJ, 1, .inr (.inl ou)))]) [1, 2, 3, 4, 5, 6, 7, 8, 9, 0] rfl
    have hD9 := hD.sub (ws' := [(ra0, .inr (5, sr_ fa fb oa)), (fb, .inr (3, fg_ kd1 (nI pp1) (nI nn1) qx1 qy1 qs1 pr1 sc1 qt1 qh1 mn1 qm1 qd1)), (qx1, .inl (cI, cx1, .inl xs1)), (qy1, .inl (cI, cx1, .inl ys1)), (qs1, .inl (cI, cp1, .inl st1)), (qt1, .inl (cI, ct1, .inl ta1)), (qh1, .inl (cI, ct1, .inl he1)), (qm1, .inl (cI, ct1, .inl ma1)), (qd1, .inl (cJ, ct1, .inr (.inl sd1))), (ot, .inl (cJ, 1, .inr (.inl ou)))]) [1, 2, 3, 4, 5, 6, 7, 8, 9, 0] (by decide) rfl
    exact W.iret (v := 2) hx hb hr (fun t ht hW => ⟨⟨2, (ct1, ta1, he1, ma1, sd1, pr1, sc1, mn1, ou), rfl, ⟨fun z => absurd hE (fun w => w.elim (fun q => q z.1) (fun q => q z.2)), fun _ => rfl, Or.inl rfl, hg1⟩, qt1, qh1, qm1, qd1, by rw [ht]; exact hP9, va_K.moved hW.alike hK, hD9⟩, hS.F ht⟩) hS.2.2 dL_locate_22
  · obtain ⟨ct3, ta3, he3, ma3, sd3⟩ := u
    obtain ⟨qt3, qh3, qm3, qd3, hP1, hK1, hD1⟩ := hB
    rw [ht] at hP1
    dsimp only at hw
    obtain ⟨hP, hD⟩ := va_join (wr := [(ot, .inl (cJ, 1, .inr (.inl ou)))]) (w1 := [(ra0, .inr (5, sr_ fa fb oa)), (fb, .inr (3, fg_ kd1 (nI pp1) (nI nn1) qx1 qy1 qs1 1 (nI (prS_ kd1 xs1 ys1 sn1 pp1 nn1 pp1).length) qt3 qh3 (nI (prM_ kd1 xs1 ys1 sn1 pp1 nn1 pp1).length) qm3 qd3)), (qx1, .inl (cI, cx1, .inl xs1)), (qy1, .inl (cI, cx1, .inl ys1)), (qs1, .inl (cI, cp1, .inl st1)), (qt3, .inl (cI, ct3, .inl ta3)), (qh3, .inl (cI, ct3, .inl he3)), (qm3, .inl (cI, ct3, .inl ma3)), (qd3, .inl (cJ, ct3, .inr (.inl sd3)))]) hP hD [0, 1, 2, 3, 4, 5, 6, 7, 8] [9] rfl rfl (by decide) (by decide) hk1 hFc hP1 hD1
    clear hPc hDc hFc hP1 hD1 hK1 hk1 hz1 hvm ht
    generalize H1 = H at hP hS ⊢
    have hP : va_P g vwCl [(ot, .inl (cJ, 1, .inr (.inl ou))), (ra0, .inr (5, sr_ fa fb oa)), (fb, .inr (3, fg_ kd1 (nI pp1) (nI nn1) qx1 qy1 qs1 1 (nI (prS_ kd1 xs1 ys1 sn1 pp1 nn1 pp1).length) qt3 qh3 (nI (prM_ kd1 xs1 ys1 sn1 pp1 nn1 pp1).length) qm3 qd3)), (qx1, .inl (cI, cx1, .inl xs1)), (qy1, .inl (cI, cx1, .inl ys1)), (qs1, .inl (cI, cp1, .inl st1)), (qt3, .inl (cI, ct3, .inl ta3)), (qh3, .inl (cI, ct3, .inl he3)), (qm3, .inl (cI, ct3, .inl ma3)), (qd3, .inl (cJ, ct3, .inr (.inl sd3)))] H := hP
    have hD : va_D A [(ot, .inl (cJ, 1, .inr (.inl ou))), (ra0, .inr (5, sr_ fa fb oa)), (fb, .inr (3, fg_ kd1 (nI pp1) (nI nn1) qx1 qy1 qs1 1 (nI (prS_ kd1 xs1 ys1 sn1 pp1 nn1 pp1).length) qt3 qh3 (nI (prM_ kd1 xs1 ys1 sn1 pp1 nn1 pp1).length) qm3 qd3)), (qx1, .inl (cI, cx1, .inl xs1)), (qy1, .inl (cI, cx1, .inl ys1)), (qs1, .inl (cI, cp1, .inl st1)), (qt3, .inl (cI, ct3, .inl ta3)), (qh3, .inl (cI, ct3, .inl he3)), (qm3, .inl (cI, ct3, .inl ma3)), (qd3, .inl (cJ, ct3, .inr (.inl sd3)))] := hD
    refine lv_i2l hx hb dL_locate_10 rfl ?_
    refine va_last (D := g) hx hb hK hP hD hS 0 1 rfl rfl (by unfold vp_in; decide) dL_locate_11 (fun H locs hP hD hS => ?_)
    rw [show (0 : Int32).toNatClampNeg = 0 from rfl] at hP hD
    have hP : va_P g vwCl [(ot, .inl (cJ, 1, .inr (.inl (vp_updL ou 0 r1.toInt64)))), (ra0, .inr (5, sr_ fa fb oa)), (fb, .inr (3, fg_ kd1 (nI pp1) (nI nn1) qx1 qy1 qs1 1 (nI (prS_ kd1 xs1 ys1 sn1 pp1 nn1 pp1).length) qt3 qh3 (nI (prM_ kd1 xs1 ys1 sn1 pp1 nn1 pp1).length) qm3 qd3)), (qx1, .inl (cI, cx1, .inl xs1)), (qy1, .inl (cI, cx1, .inl ys1)), (qs1, .inl (cI, cp1, .inl st1)), (qt3, .inl (cI, ct3, .inl ta3)), (qh3, .inl (cI, ct3, .inl he3)), (qm3, .inl (cI, ct3, .inl ma3)), (qd3, .inl (cJ, ct3, .inr (.inl sd3)))] H := hP
    have hD : va_D A [(ot, .inl (cJ, 1, .inr (.inl (vp_updL ou 0 r1.toInt64)))), (ra0, .inr (5, sr_ fa fb oa)), (fb, .inr (3, fg_ kd1 (nI pp1) (nI nn1) qx1 qy1 qs1 1 (nI (prS_ kd1 xs1 ys1 sn1 pp1 nn1 pp1).length) qt3 qh3 (nI (prM_ kd1 xs1 ys1 sn1 pp1 nn1 pp1).length) qm3 qd3)), (qx1, .inl (cI, cx1, .inl xs1)), (qy1, .inl (cI, cx1, .inl ys1)), (qs1, .inl (cI, cp1, .inl st1)), (qt3, .inl (cI, ct3, .inl ta3)), (qh3, .inl (cI, ct3, .inl he3)), (qm3, .inl (cI, ct3, .inl ma3)), (qd3, .inl (cJ, ct3, .inr (.inl sd3)))] := hD
    refine lv_goto (tgt := 23) hx hb dL_locate_12 (by decide) ?_
    refine lv_iconst (v := 0) hx hb dL_locate_23 (by decide) ?_
    refine W.widen (k := 6) (n := (12 + 4 * cx1)) (by omega) (by omega) ?_
    have hP9 := hP.sub (ws' := [(ra0, .inr (5, sr_ fa fb oa)), (fb, .inr (3, fg_ kd1 (nI pp1) (nI nn1) qx1 qy1 qs1 1 (nI (prS_ kd1 xs1 ys1 sn1 pp1 nn1 pp1).length) qt3 qh3 (nI (prM_ kd1 xs1 ys1 sn1 pp1 nn1 pp1).length) qm3 qd3)), (qx1, .inl (cI, cx1, .inl xs1)), (qy1, .inl (cI, cx1, .inl ys1)), (qs1, .inl (cI, cp1, .inl st1)), (qt3, .inl (cI, ct3, .inl ta3)), (qh3, .inl (cI, ct3, .inl he3)), (qm3, .inl (cI, ct3, .inl ma3)), (qd3, .inl (cJ, ct3, .inr (.inl sd3))), (ot, .inl (cJ, 1, .inr (.inl (vp_updL ou 0 r1.toInt64))))]) [1, 2, 3, 4, 5, 6, 7, 8, 9, 0] rfl
    have hD9 := hD.sub (ws' := [(ra0, .inr (5, sr_ fa fb oa)), (fb, .inr (3, fg_ kd1 (nI pp1) (nI nn1) qx1 qy1 qs1 1 (nI (prS_ kd1 xs1 ys1 sn1 pp1 nn1 pp1).length) qt3 qh3 (nI (prM_ kd1 xs1 ys1 sn1 pp1 nn1 pp1).length) qm3 qd3)), (qx1, .inl (cI, cx1, .inl xs1)), (qy1, .inl (cI, cx1, .inl ys1)), (qs1, .inl (cI, cp1, .inl st1)), (qt3, .inl (cI, ct3, .inl ta3)), (qh3, .inl (cI, ct3, .inl he3)), (qm3, .inl (cI, ct3, .inl ma3)), (qd3, .inl (cJ, ct3, .inr (.inl sd3))), (ot, .inl (cJ, 1, .inr (.inl (vp_updL ou 0 r1.toInt64))))]) [1, 2, 3, 4, 5, 6, 7, 8, 9, 0] (by decide) rfl
    exact W.iret (v := 0) hx hb hr (fun t ht hW => ⟨⟨0, (ct3, ta3, he3, ma3, sd3, 1, nI (prS_ kd1 xs1 ys1 sn1 pp1 nn1 pp1).length, nI (prM_ kd1 xs1 ys1 sn1 pp1 nn1 pp1).length, vp_updL ou 0 r1.toInt64), rfl, ⟨fun _ => ⟨rfl, by rw [pk_uLs, hw.2.1]⟩, fun z => z.elim (fun q => absurd hw.1.1 q) (fun q => absurd hw.1.2 q), hw.2.2.2.2.1, Or.inr ⟨rfl, hw.2.2.1, rfl, rfl, hw.2.2.2.2.2.1, hw.2.2.2.2.2.2⟩⟩, qt3, qh3, qm3, qd3, by rw [ht]; exact hP9, va_K.moved hW.alike hK, hD9⟩, hS.F ht⟩) hS.2.2 dL_locate_24
end
