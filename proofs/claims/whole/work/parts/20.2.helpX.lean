section
set_option maxHeartbeats 1000000 in
set_option maxRecDepth 100000 in
theorem kX5_entryX (l : Launch) (g : va_G) (cI cJ cZ : ClassId) (sz : Nat) (hlt : l.stackTraces = false) (ra0 : Nat) (fa : Nat) (fb : Nat) (oa : Nat) (o1 : Int32) (o2 : Int32) (h0 : wi_ o1 0 2 = 0 ∨ wi_ o2 0 2 = 0) : vx_Met l yX5_entry wsX5_entry ({ frames := 6, cells := 1, slots := 6, locals := 82 }) (pce_ g cI cJ cZ [.ref ra0, .int o1, .int o2] [(ra0, .inr (5, sr_ fa fb oa))] sz) (va_Qi (fun (r : Int32) (_ : Unit) => False) (fun (_ : Unit) t => wd_ g cI cJ cZ (va_A [(ra0, .inr (5, sr_ fa fb oa))] sz) [(ra0, .inr (5, sr_ fa fb oa))] t) (va_A [(ra0, .inr (5, sr_ fa fb oa))] sz)) (vx_X (fun _ : Unit => True) (fun E _ t => (E = "java/lang/IndexOutOfBoundsException") ∧ wd_ g cI cJ cZ (va_A [(ra0, .inr (5, sr_ fa fb oa))] sz) [(ra0, .inr (5, sr_ fa fb oa))] t) (va_A [(ra0, .inr (5, sr_ fa fb oa))] sz)) (1) (6) (va_A [(ra0, .inr (5, sr_ fa fb oa))] sz) := by
  refine vx_ofW (cc := cX5_entry) (maxL := 3) (ret := (some .int)) (by decide) rfl ?_
  intro p e s m args below meth c s₁ B hml hnx hv
  obtain ⟨rfl, ⟨hsz, hP, hK, hD0⟩, hev⟩ := hv
  have hx := B.exec
  have hb := B.bytes
  have hr := B.returns
  have hts := atoms_spec (ws := wsX5_entry) B.pre
  have hown : s.vm.findClass RX5 = some m.cls := findClass_of_methodNamed B.named
  have hlocks := B.notSynchronized
  subst hsz
  have hD := hD0.self (sz := s.heap.size)
  generalize hAe : va_A [(ra0, .inr (5, sr_ fa fb oa))] s.heap.size = A at hD hev ⊢
  have hA : ∀ q : Nat, s.heap.size ≤ q → A q := fun q h => by rw [← hAe]; exact Or.inr h
  have hS : va_S A s.heap s.heap [] := va_S.rf
  have hP : va_P g vwCl [(ra0, .inr (5, sr_ fa fb oa))] s.heap := hP
  have hl := lv_entry ([.ref ra0, .int o1, .int o2]) (n := 3) (Nat.le_of_ble_eq_true rfl)
  rw [lg_entry_eq]
  generalize (lg_sl ([.ref ra0, .int o1, .int o2]) ++ List.replicate (3 - (lg_sl ([.ref ra0, .int o1, .int o2])).length) Slot.unset).toArray = ls at hl ⊢
  have hl : lv_has ls 3 [(0, .ref ra0), (1, .int o1), (2, .int o2)] := hl
  have hH0 : s.heap = s.heap := rfl
  refine lv_iload_n hx hb dX5_entry_0 rfl (lv_at hl 1 rfl) ?_
  refine lv_if_lt (tgt := 18) hx hb dX5_entry_1 (by decide) (fun c1 => ?_) (fun c1 => ?_)
  · have hP9 := hP.sub (ws' := [(ra0, .inr (5, sr_ fa fb oa))]) [0] rfl
    have hD9 := hD.sub (ws' := [(ra0, .inr (5, sr_ fa fb oa))]) [0] (by decide) rfl
    obtain ⟨sa, hsa⟩ := hev.1.2.1 (87, "no such entry") (List.mem_of_getElem? (i := 6) rfl)
    exact vx_throwS (A := A) (names := nm2_) (cls := "java/lang/IndexOutOfBoundsException") hx hb hlt hown fi1_ fin_ (hts (.classLink RX5 85 "java/lang/IndexOutOfBoundsException") (List.mem_of_getElem? (i := 1) rfl)) (hts (.initialized "java/lang/IndexOutOfBoundsException") (List.mem_of_getElem? (i := 2) rfl)) hsa (vx_hat (B := evB_) (fun w hw => hts w (List.mem_cons_of_mem _ (List.mem_append_right _ hw))) nb1_ (evB_u hev.1)) go1_ hev.2.1 hev.2.2 hS (hl.1.trans hml.symm) dX5_entry_18 dX5_entry_21 dX5_entry_22 dX5_entry_24 dX5_entry_27 (fun x hx9 => (hnx x hx9).elim) (Nat.le_of_ble_eq_true rfl) (Nat.le_of_ble_eq_true rfl) (by show 0 + 1 ≤ 1; omega) (by show 0 + 6 ≤ 6; omega) hlocks (fun t hvm hz hq => ⟨(), trivial, ⟨rfl, vp_k hP9 hq, va_K.moved hvm hK, hD9⟩, vf_k hS hz hq⟩) hS.2.2 (by show 0 + 1 ≤ 1; omega) (by show 0 + 6 ≤ 6; omega)
  · refine lv_iload_n hx hb dX5_entry_4 rfl (lv_at hl 1 rfl) ?_
    refine lv_iconst (v := 2) hx hb dX5_entry_5 (by decide) ?_
    refine lv_icmp_gt (tgt := 18) hx hb dX5_entry_6 (by decide) (fun c2 => ?_) (fun c2 => ?_)
    · have hP9 := hP.sub (ws' := [(ra0, .inr (5, sr_ fa fb oa))]) [0] rfl
      have hD9 := hD.sub (ws' := [(ra0, .inr (5, sr_ fa fb oa))]) [0] (by decide) rfl
      obtain ⟨sa, hsa⟩ := hev.1.2.1 (87, "no such entry") (List.mem_of_getElem? (i := 6) rfl)
      exact vx_throwS (A := A) (names := nm2_) (cls := "java/lang/IndexOutOfBoundsException") hx hb hlt hown fi1_ fin_ (hts (.classLink RX5 85 "java/lang/IndexOutOfBoundsException") (List.mem_of_getElem? (i := 1) rfl)) (hts (.initialized "java/lang/IndexOutOfBoundsException") (List.mem_of_getElem? (i := 2) rfl)) hsa (vx_hat (B := evB_) (fun w hw => hts w (List.mem_cons_of_mem _ (List.mem_append_right _ hw))) nb1_ (evB_u hev.1)) go1_ hev.2.1 hev.2.2 hS (hl.1.trans hml.symm) dX5_entry_18 dX5_entry_21 dX5_entry_22 dX5_entry_24 dX5_entry_27 (fun x hx9 => (hnx x hx9).elim) (Nat.le_of_ble_eq_true rfl) (Nat.le_of_ble_eq_true rfl) (by show 0 + 1 ≤ 1; omega) (by show 0 + 6 ≤ 6; omega) hlocks (fun t hvm hz hq => ⟨(), trivial, ⟨rfl, vp_k hP9 hq, va_K.moved hvm hK, hD9⟩, vf_k hS hz hq⟩) hS.2.2 (by show 0 + 1 ≤ 1; omega) (by show 0 + 6 ≤ 6; omega)
    · refine lv_iload_n hx hb dX5_entry_9 rfl (lv_at hl 2 rfl) ?_
      refine lv_if_lt (tgt := 18) hx hb dX5_entry_10 (by decide) (fun c3 => ?_) (fun c3 => ?_)
      · have hP9 := hP.sub (ws' := [(ra0, .inr (5, sr_ fa fb oa))]) [0] rfl
        have hD9 := hD.sub (ws' := [(ra0, .inr (5, sr_ fa fb oa))]) [0] (by decide) rfl
        obtain ⟨sa, hsa⟩ := hev.1.2.1 (87, "no such entry") (List.mem_of_getElem? (i := 6) rfl)
        exact vx_throwS (A := A) (names := nm2_) (cls := "java/lang/IndexOutOfBoundsException") hx hb hlt hown fi1_ fin_ (hts (.classLink RX5 85 "java/lang/IndexOutOfBoundsException") (List.mem_of_getElem? (i := 1) rfl)) (hts (.initialized "java/lang/IndexOutOfBoundsException") (List.mem_of_getElem? (i := 2) rfl)) hsa (vx_hat (B := evB_) (fun w hw => hts w (List.mem_cons_of_mem _ (List.mem_append_right _ hw))) nb1_ (evB_u hev.1)) go1_ hev.2.1 hev.2.2 hS (hl.1.trans hml.symm) dX5_entry_18 dX5_entry_21 dX5_entry_22 dX5_entry_24 dX5_entry_27 (fun x hx9 => (hnx x hx9).elim) (Nat.le_of_ble_eq_true rfl) (Nat.le_of_ble_eq_true rfl) (by show 0 + 1 ≤ 1; omega) (by show 0 + 6 ≤ 6; omega) hlocks (fun t hvm hz hq => ⟨(), trivial, ⟨rfl, vp_k hP9 hq, va_K.moved hvm hK, hD9⟩, vf_k hS hz hq⟩) hS.2.2 (by show 0 + 1 ≤ 1; omega) (by show 0 + 6 ≤ 6; omega)
      · refine lv_iload_n hx hb dX5_entry_13 rfl (lv_at hl 2 rfl) ?_
        refine lv_iconst (v := 2) hx hb dX5_entry_14 (by decide) ?_
        refine lv_icmp_le (tgt := 28) hx hb dX5_entry_15 (by decide) (fun c4 => ?_) (fun c4 => ?_)
        · exact absurd h0 (fun z => z.elim (by rw [← wi3_ c1 c2]; decide) (by rw [← wi3_ c3 (Int32.not_lt.mpr c4)]; decide))
        · have hP9 := hP.sub (ws' := [(ra0, .inr (5, sr_ fa fb oa))]) [0] rfl
          have hD9 := hD.sub (ws' := [(ra0, .inr (5, sr_ fa fb oa))]) [0] (by decide) rfl
          obtain ⟨sa, hsa⟩ := hev.1.2.1 (87, "no such entry") (List.mem_of_getElem? (i := 6) rfl)
          exact vx_throwS (A := A) (names := nm2_) (cls := "java/lang/IndexOutOfBoundsException") hx hb hlt hown fi1_ fin_ (hts (.classLink RX5 85 "java/lang/IndexOutOfBoundsException") (List.mem_of_getElem? (i := 1) rfl)) (hts (.initialized "java/lang/IndexOutOfBoundsException") (List.mem_of_getElem? (i := 2) rfl)) hsa (vx_hat (B := evB_) (fun w hw => hts w (List.mem_cons_of_mem _ (List.mem_append_right _ hw))) nb1_ (evB_u hev.1)) go1_ hev.2.1 hev.2.2 hS (hl.1.trans hml.symm) dX5_entry_18 dX5_entry_21 dX5_entry_22 dX5_entry_24 dX5_entry_27 (fun x hx9 => (hnx x hx9).elim) (Nat.le_of_ble_eq_true rfl) (Nat.le_of_ble_eq_true rfl) (by show 0 + 1 ≤ 1; omega) (by show 0 + 6 ≤ 6; omega) hlocks (fun t hvm hz hq => ⟨(), trivial, ⟨rfl, vp_k hP9 hq, va_K.moved hvm hK, hD9⟩, vf_k hS hz hq⟩) hS.2.2 (by show 0 + 1 ≤ 1; omega) (by show 0 + 6 ≤ 6; omega)

set_option maxHeartbeats 1000000 in
set_option maxRecDepth 100000 in
theorem kX5_isX (l : Launch) (g : va_G) (cI cJ cZ : ClassId) (sz : Nat) (hlt : l.stackTraces = false) (ra0 : Nat) (fa : Nat) (fb : Nat) (oa : Nat) (wv : Int32) (h0 : wi_ wv 0 8 = 0) : vx_Met l yX5_is wsX5_is ({ frames := 6, cells := 1, slots := 6, locals := 82 }) (pce_ g cI cJ cZ [.ref ra0, .int wv] [(ra0, .inr (5, sr_ fa fb oa))] sz) (va_Qi (fun (r : Int32) (_ : Unit) => False) (fun (_ : Unit) t => wd_ g cI cJ cZ (va_A [(ra0, .inr (5, sr_ fa fb oa))] sz) [(ra0, .inr (5, sr_ fa fb oa))] t) (va_A [(ra0, .inr (5, sr_ fa fb oa))] sz)) (vx_X (fun _ : Unit => True) (fun E _ t => (E = "java/lang/IndexOutOfBoundsException") ∧ wd_ g cI cJ cZ (va_A [(ra0, .inr (5, sr_ fa fb oa))] sz) [(ra0, .inr (5, sr_ fa fb oa))] t) (va_A [(ra0, .inr (5, sr_ fa fb oa))] sz)) (1) (6) (va_A [(ra0, .inr (5, sr_ fa fb oa))] sz) := by
  refine vx_ofW (cc := cX5_is) (maxL := 2) (ret := (some .boolean)) (by decide) rfl ?_
  intro p e s m args below meth c s₁ B hml hnx hv
  obtain ⟨rfl, ⟨hsz, hP, hK, hD0⟩, hev⟩ := hv
  have hx := B.exec
  have hb := B.bytes
  have hr := B.returns
  have hts := atoms_spec (ws := wsX5_is) B.pre
  have hown : s.vm.findClass RX5 = some m.cls := findClass_of_methodNamed B.named
  have hlocks := B.notSynchronized
  subst hsz
  have hD := hD0.self (sz := s.heap.size)
  generalize hAe : va_A [(ra0, .inr (5, sr_ fa fb oa))] s.heap.size = A at hD hev ⊢
  have hA : ∀ q : Nat, s.heap.size ≤ q → A q := fun q h => by rw [← hAe]; exact Or.inr h
  have hS : va_S A s.heap s.heap [] := va_S.rf
  have hP : va_P g vwCl [(ra0, .inr (5, sr_ fa fb oa))] s.heap := hP
  have hl := lv_entry ([.ref ra0, .int wv]) (n := 2) (Nat.le_of_ble_eq_true rfl)
  rw [lg_entry_eq]
  generalize (lg_sl ([.ref ra0, .int wv]) ++ List.replicate (2 - (lg_sl ([.ref ra0, .int wv])).length) Slot.unset).toArray = ls at hl ⊢
  have hl : lv_has ls 2 [(0, .ref ra0), (1, .int wv)] := hl
  have hH0 : s.heap = s.heap := rfl
  refine lv_iload_n hx hb dX5_is_0 rfl (lv_at hl 1 rfl) ?_
  refine lv_if_lt (tgt := 10) hx hb dX5_is_1 (by decide) (fun c1 => ?_) (fun c1 => ?_)
  · have hP9 := hP.sub (ws' := [(ra0, .inr (5, sr_ fa fb oa))]) [0] rfl
    have hD9 := hD.sub (ws' := [(ra0, .inr (5, sr_ fa fb oa))]) [0] (by decide) rfl
    obtain ⟨sa, hsa⟩ := hev.1.2.1 (90, "no such question") (List.mem_of_getElem? (i := 7) rfl)
    exact vx_throwS (A := A) (names := nm2_) (cls := "java/lang/IndexOutOfBoundsException") hx hb hlt hown fi1_ fin_ (hts (.classLink RX5 85 "java/lang/IndexOutOfBoundsException") (List.mem_of_getElem? (i := 1) rfl)) (hts (.initialized "java/lang/IndexOutOfBoundsException") (List.mem_of_getElem? (i := 2) rfl)) hsa (vx_hat (B := evB_) (fun w hw => hts w (List.mem_cons_of_mem _ (List.mem_append_right _ hw))) nb1_ (evB_u hev.1)) go1_ hev.2.1 hev.2.2 hS (hl.1.trans hml.symm) dX5_is_10 dX5_is_13 dX5_is_14 dX5_is_16 dX5_is_19 (fun x hx9 => (hnx x hx9).elim) (Nat.le_of_ble_eq_true rfl) (Nat.le_of_ble_eq_true rfl) (by show 0 + 1 ≤ 1; omega) (by show 0 + 6 ≤ 6; omega) hlocks (fun t hvm hz hq => ⟨(), trivial, ⟨rfl, vp_k hP9 hq, va_K.moved hvm hK, hD9⟩, vf_k hS hz hq⟩) hS.2.2 (by show 0 + 1 ≤ 1; omega) (by show 0 + 6 ≤ 6; omega)
  · refine lv_iload_n hx hb dX5_is_4 rfl (lv_at hl 1 rfl) ?_
    refine lv_bipush (v := 8) hx hb dX5_is_5 (by decide) ?_
    refine lv_icmp_le (tgt := 20) hx hb dX5_is_7 (by decide) (fun c2 => ?_) (fun c2 => ?_)
    · exact absurd h0 (by rw [← wi3_ c1 (Int32.not_lt.mpr c2)]; decide)
    · have hP9 := hP.sub (ws' := [(ra0, .inr (5, sr_ fa fb oa))]) [0] rfl
      have hD9 := hD.sub (ws' := [(ra0, .inr (5, sr_ fa fb oa))]) [0] (by decide) rfl
      obtain ⟨sa, hsa⟩ := hev.1.2.1 (90, "no such question") (List.mem_of_getElem? (i := 7) rfl)
      exact vx_throwS (A := A) (names := nm2_) (cls := "java/lang/IndexOutOfBoundsException") hx hb hlt hown fi1_ fin_ (hts (.classLink RX5 85 "java/lang/IndexOutOfBoundsException") (List.mem_of_getElem? (i := 1) rfl)) (hts (.initialized "java/lang/IndexOutOfBoundsException") (List.mem_of_getElem? (i := 2) rfl)) hsa (vx_hat (B := evB_) (fun w hw => hts w (List.mem_cons_of_mem _ (List.mem_append_right _ hw))) nb1_ (evB_u hev.1)) go1_ hev.2.1 hev.2.2 hS (hl.1.trans hml.symm) dX5_is_10 dX5_is_13 dX5_is_14 dX5_is_16 dX5_is_19 (fun x hx9 => (hnx x hx9).elim) (Nat.le_of_ble_eq_true rfl) (Nat.le_of_ble_eq_true rfl) (by show 0 + 1 ≤ 1; omega) (by show 0 + 6 ≤ 6; omega) hlocks (fun t hvm hz hq => ⟨(), trivial, ⟨rfl, vp_k hP9 hq, va_K.moved hvm hK, hD9⟩, vf_k hS hz hq⟩) hS.2.2 (by show 0 + 1 ≤ 1; omega) (by show 0 + 6 ≤ 6; omega)

set_option maxHeartbeats 1000000 in
set_option maxRecDepth 100000 in
theorem kL_shapeX (l : Launch) (g : va_G) (cI cJ cZ : ClassId) (sz : Nat) (hlt : l.stackTraces = false) (ra0 : Nat) (fa : Nat) (fb : Nat) (oa : Nat) (sv : Int32) (kv : Int32) (ot : Nat) (ou : Nat → Int64) (h0 : ¬ sv = 0) (h1 : ¬ sv = 1) : Met l yL_shape wsL_shape ({ frames := 8, cells := 1, slots := 6, locals := 127 }) (pce_ g cI cJ cZ [.ref ra0, .int sv, .int kv, .ref ot] [(ra0, .inr (5, sr_ fa fb oa)), (ot, .inl (cJ, 1, .inr (.inl ou)))] sz) (va_Qi (fun (r : Int32) (_ : Unit) => r = 1) (fun (_ : Unit) t => wd_ g cI cJ cZ (va_A [(ra0, .inr (5, sr_ fa fb oa)), (ot, .inl (cJ, 1, .inr (.inl ou)))] sz) [(ra0, .inr (5, sr_ fa fb oa)), (ot, .inl (cJ, 1, .inr (.inl ou)))] t) (va_A [(ra0, .inr (5, sr_ fa fb oa)), (ot, .inl (cJ, 1, .inr (.inl ou)))] sz)) (1) (6) (va_A [(ra0, .inr (5, sr_ fa fb oa)), (ot, .inl (cJ, 1, .inr (.inl ou)))] sz) := by
  refine mo_ofWH (hh := [(0, 10, 13, 13), (0, 10, 17, 15)]) (cc := cL_shape) (maxL := 5) (ret := (some .int)) (by decide) rfl ?_
  intro p e s m args below meth c s₁ B hml hv
  obtain ⟨rfl, ⟨hsz, hP, hK, hD0⟩, hev⟩ := hv
  have hx := B.exec
  have hb := B.bytes
  have hr := B.returns
  have hts := atoms_spec (ws := wsL_shape) B.pre
  have hown : s.vm.findClass RL = some m.cls := findClass_of_methodNamed B.named
  have hlocks := B.notSynchronized
  have hT : c.exceptionTable.toList = tableOf [(0, 10, 13, 13), (0, 10, 17, 15)] := vx_table (x := yL_shape) B (hts _ List.mem_cons_self)
  subst hsz
  have hD := hD0.self (sz := s.heap.size)
  generalize hAe : va_A [(ra0, .inr (5, sr_ fa fb oa)), (ot, .inl (cJ, 1, .inr (.inl ou)))] s.heap.size = A at hD hev ⊢
  have hA : ∀ q : Nat, s.heap.size ≤ q → A q := fun q h => by rw [← hAe]; exact Or.inr h
  have hS : va_S A s.heap s.heap [] := va_S.rf
  have hP : va_P g vwCl [(ra0, .inr (5, sr_ fa fb oa)), (ot, .inl (cJ, 1, .inr (.inl ou)))] s.heap := hP
  have hl := lv_entry ([.ref ra0, .int sv, .int kv, .ref ot]) (n := 5) (Nat.le_of_ble_eq_true rfl)
  rw [lg_entry_eq]
  generalize (lg_sl ([.ref ra0, .int sv, .int kv, .ref ot]) ++ List.replicate (5 - (lg_sl ([.ref ra0, .int sv, .int kv, .ref ot])).length) Slot.unset).toArray = ls at hl ⊢
  have hl : lv_has ls 5 [(0, .ref ra0), (1, .int sv), (2, .int kv), (3, .ref ot)] := hl
  have hH0 : s.heap = s.heap := rfl
  refine lv_aload_n hx hb dL_shape_0 rfl (lv_at hl 3 rfl) ?_
  refine lv_iconst (v := 0) hx hb dL_shape_1 (by decide) ?_
  refine lv_aload_n hx hb dL_shape_2 rfl (lv_at hl 0 rfl) ?_
  refine lv_iload_n hx hb dL_shape_3 rfl (lv_at hl 1 rfl) ?_
  refine lv_iload_n hx hb dL_shape_4 rfl (lv_at hl 2 rfl) ?_
  have hPc := hP.sub (ws' := [(ra0, .inr (5, sr_ fa fb oa))]) [0] rfl
  have hDc := hD.sub (ws' := [(ra0, .inr (5, sr_ fa fb oa))]) [0] (by decide) rfl
  have hFc := va_free (wc := [(ra0, .inr (5, sr_ fa fb oa))]) hD hS hA [0] rfl
  refine vx_calli (vx_runV (As := [.int sv, .int kv]) (rest := [.int 0, .ref ot]) ⟨hx, hb, hml, hown, hts⟩ (kX5_shapeX l g cI cJ cZ s.heap.size hlt ra0 fa fb oa sv kv h0 h1) (cwV 2 hts gL_shape_X5_shape rfl rfl rfl (by decide +kernel) ⟨Nat.le_of_ble_eq_true rfl, Nat.le_of_ble_eq_true rfl⟩) (pve_ hev hS hFc hK hPc hDc (va_recv hK hPc (ci := 5) (q0 := 0) rfl rfl)) rfl rfl hl.1 rfl (lv_room (Nat.le_of_ble_eq_true rfl)) dL_shape_5 ⟨by show 0 + 1 ≤ 1; omega, by show 0 + 6 ≤ 6; omega⟩) hS (fun q _ h => hFc q h) hFc (fun q _ h => hFc q h) (fun E ce q9 u t H1 locs ht hvm _ hBX hz1 hk1 hS hce hcv hcl => ?_) (fun r1 u t H1 locs ht hvm hw hB hz1 hk1 hS => ?_)
  · obtain ⟨hE, hP1, hK1, hD1⟩ := hBX
    rw [ht] at hP1
    obtain ⟨hP, hD⟩ := va_join (wr := [(ot, .inl (cJ, 1, .inr (.inl ou)))]) (w1 := [(ra0, .inr (5, sr_ fa fb oa))]) hP hD [0] [1] rfl rfl (by decide) (by decide) hk1 hFc hP1 hD1
    clear hPc hDc hFc hP1 hD1 hK1 hk1 hz1 hvm ht
    generalize H1 = H at hP hS hce ⊢
    have hP : va_P g vwCl [(ot, .inl (cJ, 1, .inr (.inl ou))), (ra0, .inr (5, sr_ fa fb oa))] H := hP
    have hD : va_D A [(ot, .inl (cJ, 1, .inr (.inl ou))), (ra0, .inr (5, sr_ fa fb oa))] := hD
    obtain rfl := hE
    refine vx_catch hown [] ⟨0, 10, 13, 13⟩ [⟨0, 10, 17, 15⟩] hT (fun z hz => absurd hz (by simp)) rfl (by decide) (hts (.classLink RL 13 "java/lang/IndexOutOfBoundsException") (List.mem_of_getElem? (i := 1) rfl)) (va_Nw.use rfl (hev.1.1 _ (List.mem_of_getElem? (i := 0) rfl))) hce hcv hcl ?_
    show W p l e _ s m _ below meth c H locs (0 + 1) (0 + 6) _ (F0 m 13 ls [.ref q9])
    refine lv_astore (lv' := [(4, .ref q9), (0, .ref ra0), (1, .int sv), (2, .int kv), (3, .ref ot)]) hx hb dL_shape_13 hl (by decide) rfl (fun ls hl => ?_)
    refine lv_iconst (v := 1) hx hb dL_shape_15 (by decide) ?_
    refine W.widen (k := 1) (n := 6) (by omega) (by omega) ?_
    have hP9 := hP.sub (ws' := [(ra0, .inr (5, sr_ fa fb oa)), (ot, .inl (cJ, 1, .inr (.inl ou)))]) [1, 0] rfl
    have hD9 := hD.sub (ws' := [(ra0, .inr (5, sr_ fa fb oa)), (ot, .inl (cJ, 1, .inr (.inl ou)))]) [1, 0] (by decide) rfl
    exact W.iret (v := 1) hx hb hr (fun t ht hW => ⟨⟨1, (), rfl, rfl, by rw [ht]; exact hP9, va_K.moved hW.alike hK, hD9⟩, hS.F ht⟩) hS.2.2 dL_shape_16
  · obtain ⟨hP1, hK1, hD1⟩ := hB
    rw [ht] at hP1
    obtain ⟨hP, hD⟩ := va_join (wr := [(ot, .inl (cJ, 1, .inr (.inl ou)))]) (w1 := [(ra0, .inr (5, sr_ fa fb oa))]) hP hD [0] [1] rfl rfl (by decide) (by decide) hk1 hFc hP1 hD1
    clear hPc hDc hFc hP1 hD1 hK1 hk1 hz1 hvm ht
    generalize H1 = H at hP hS ⊢
    have hP : va_P g vwCl [(ot, .inl (cJ, 1, .inr (.inl ou))), (ra0, .inr (5, sr_ fa fb oa))] H := hP
    have hD : va_D A [(ot, .inl (cJ, 1, .inr (.inl ou))), (ra0, .inr (5, sr_ fa fb oa))] := hD
    exact hw.elim

set_option maxHeartbeats 1000000 in
set_option maxRecDepth 100000 in
theorem kL_partX (l : Launch) (g : va_G) (cI cJ cZ : ClassId) (sz : Nat) (hlt : l.stackTraces = false) (ra0 : Nat) (fa : Nat) (fb : Nat) (oa : Nat) (sv : Int32) (ot : Nat) (ou : Nat → Int64) (h0 : ¬ sv = 0) (h1 : ¬ sv = 1) : Met l yL_part wsL_part ({ frames := 8, cells := 1, slots := 6, locals := 125 }) (pce_ g cI cJ cZ [.ref ra0, .int sv, .ref ot] [(ra0, .inr (5, sr_ fa fb oa)), (ot, .inl (cJ, 1, .inr (.inl ou)))] sz) (va_Qi (fun (r : Int32) (_ : Unit) => r = 1) (fun (_ : Unit) t => wd_ g cI cJ cZ (va_A [(ra0, .inr (5, sr_ fa fb oa)), (ot, .inl (cJ, 1, .inr (.inl ou)))] sz) [(ra0, .inr (5, sr_ fa fb oa)), (ot, .inl (cJ, 1, .inr (.inl ou)))] t) (va_A [(ra0, .inr (5, sr_ fa fb oa)), (ot, .inl (cJ, 1, .inr (.inl ou)))] sz)) (1) (6) (va_A [(ra0, .inr (5, sr_ fa fb oa)), (ot, .inl (cJ, 1, .inr (.inl ou)))] sz) := by
  refine mo_ofWH (hh := [(0, 9, 12, 13), (0, 9, 15, 21)]) (cc := cL_part) (maxL := 4) (ret := (some .int)) (by decide) rfl ?_
  intro p e s m args below meth c s₁ B hml hv
  obtain ⟨rfl, ⟨hsz, hP, hK, hD0⟩, hev⟩ := hv
  have hx := B.exec
  have hb := B.bytes
  have hr := B.returns
  have hts := atoms_spec (ws := wsL_part) B.pre
  have hown : s.vm.findClass RL = some m.cls := findClass_of_methodNamed B.named
  have hlocks := B.notSynchronized
  have hT : c.exceptionTable.toList = tableOf [(0, 9, 12, 13), (0, 9, 15, 21)] := vx_table (x := yL_part) B (hts _ List.mem_cons_self)
  subst hsz
  have hD := hD0.self (sz := s.heap.size)
  generalize hAe : va_A [(ra0, .inr (5, sr_ fa fb oa)), (ot, .inl (cJ, 1, .inr (.inl ou)))] s.heap.size = A at hD hev ⊢
  have hA : ∀ q : Nat, s.heap.size ≤ q → A q := fun q h => by rw [← hAe]; exact Or.inr h
  have hS : va_S A s.heap s.heap [] := va_S.rf
  have hP : va_P g vwCl [(ra0, .inr (5, sr_ fa fb oa)), (ot, .inl (cJ, 1, .inr (.inl ou)))] s.heap := hP
  have hl := lv_entry ([.ref ra0, .int sv, .ref ot]) (n := 4) (Nat.le_of_ble_eq_true rfl)
  rw [lg_entry_eq]
  generalize (lg_sl ([.ref ra0, .int sv, .ref ot]) ++ List.replicate (4 - (lg_sl ([.ref ra0, .int sv, .ref ot])).length) Slot.unset).toArray = ls at hl ⊢
  have hl : lv_has ls 4 [(0, .ref ra0), (1, .int sv), (2, .ref ot)] := hl
  have hH0 : s.heap = s.heap := rfl
  refine lv_aload_n hx hb dL_part_0 rfl (lv_at hl 2 rfl) ?_
  refine lv_iconst (v := 0) hx hb dL_part_1 (by decide) ?_
  refine lv_aload_n hx hb dL_part_2 rfl (lv_at hl 0 rfl) ?_
  refine lv_iload_n hx hb dL_part_3 rfl (lv_at hl 1 rfl) ?_
  have hPc := hP.sub (ws' := [(ra0, .inr (5, sr_ fa fb oa))]) [0] rfl
  have hDc := hD.sub (ws' := [(ra0, .inr (5, sr_ fa fb oa))]) [0] (by decide) rfl
  have hFc := va_free (wc := [(ra0, .inr (5, sr_ fa fb oa))]) hD hS hA [0] rfl
  refine vx_calli (vx_runV (As := [.int sv]) (rest := [.int 0, .ref ot]) ⟨hx, hb, hml, hown, hts⟩ (kX5_partX l g cI cJ cZ s.heap.size hlt ra0 fa fb oa sv h0 h1) (cwV 1 hts gL_part_X5_part rfl rfl rfl (by decide +kernel) ⟨Nat.le_of_ble_eq_true rfl, Nat.le_of_ble_eq_true rfl⟩) (pve_ hev hS hFc hK hPc hDc (va_recv hK hPc (ci := 5) (q0 := 0) rfl rfl)) rfl rfl hl.1 rfl (lv_room (Nat.le_of_ble_eq_true rfl)) dL_part_4 ⟨by show 0 + 1 ≤ 1; omega, by show 0 + 6 ≤ 6; omega⟩) hS (fun q _ h => hFc q h) hFc (fun q _ h => hFc q h) (fun E ce q9 u t H1 locs ht hvm _ hBX hz1 hk1 hS hce hcv hcl => ?_) (fun r1 u t H1 locs ht hvm hw hB hz1 hk1 hS => ?_)
  · obtain ⟨hE, hP1, hK1, hD1⟩ := hBX
    rw [ht] at hP1
    obtain ⟨hP, hD⟩ := va_join (wr := [(ot, .inl (cJ, 1, .inr (.inl ou)))]) (w1 := [(ra0, .inr (5, sr_ fa fb oa))]) hP hD [0] [1] rfl rfl (by decide) (by decide) hk1 hFc hP1 hD1
    clear hPc hDc hFc hP1 hD1 hK1 hk1 hz1 hvm ht
    generalize H1 = H at hP hS hce ⊢
    have hP : va_P g vwCl [(ot, .inl (cJ, 1, .inr (.inl ou))), (ra0, .inr (5, sr_ fa fb oa))] H := hP
    have hD : va_D A [(ot, .inl (cJ, 1, .inr (.inl ou))), (ra0, .inr (5, sr_ fa fb oa))] := hD
    obtain rfl := hE
    refine vx_catch hown [] ⟨0, 9, 12, 13⟩ [⟨0, 9, 15, 21⟩] hT (fun z hz => absurd hz (by simp)) rfl (by decide) (hts (.classLink RL 13 "java/lang/IndexOutOfBoundsException") (List.mem_of_getElem? (i := 1) rfl)) (va_Nw.use rfl (hev.1.1 _ (List.mem_of_getElem? (i := 0) rfl))) hce hcv hcl ?_
    show W p l e _ s m _ below meth c H locs (0 + 1) (0 + 6) _ (F0 m 12 ls [.ref q9])
    refine lv_astore_n (lv' := [(3, .ref q9), (0, .ref ra0), (1, .int sv), (2, .ref ot)]) hx hb dL_part_12 rfl hl (by decide) rfl (fun ls hl => ?_)
    refine lv_iconst (v := 1) hx hb dL_part_13 (by decide) ?_
    refine W.widen (k := 1) (n := 6) (by omega) (by omega) ?_
    have hP9 := hP.sub (ws' := [(ra0, .inr (5, sr_ fa fb oa)), (ot, .inl (cJ, 1, .inr (.inl ou)))]) [1, 0] rfl
    have hD9 := hD.sub (ws' := [(ra0, .inr (5, sr_ fa fb oa)), (ot, .inl (cJ, 1, .inr (.inl ou)))]) [1, 0] (by decide) rfl
    exact W.iret (v := 1) hx hb hr (fun t ht hW => ⟨⟨1, (), rfl, rfl, by rw [ht]; exact hP9, va_K.moved hW.alike hK, hD9⟩, hS.F ht⟩) hS.2.2 dL_part_14
  · obtain ⟨hP1, hK1, hD1⟩ := hB
    rw [ht] at hP1
    obtain ⟨hP, hD⟩ := va_join (wr := [(ot, .inl (cJ, 1, .inr (.inl ou)))]) (w1 := [(ra0, .inr (5, sr_ fa fb oa))]) hP hD [0] [1] rfl rfl (by decide) (by decide) hk1 hFc hP1 hD1
    clear hPc hDc hFc hP1 hD1 hK1 hk1 hz1 hvm ht
    generalize H1 = H at hP hS ⊢
    have hP : va_P g vwCl [(ot, .inl (cJ, 1, .inr (.inl ou))), (ra0, .inr (5, sr_ fa fb oa))] H := hP
    have hD : va_D A [(ot, .inl (cJ, 1, .inr (.inl ou))), (ra0, .inr (5, sr_ fa fb oa))] := hD
    exact hw.elim

set_option maxHeartbeats 1000000 in
set_option maxRecDepth 100000 in
theorem kL_pointX (l : Launch) (g : va_G) (cI cJ cZ : ClassId) (sz : Nat) (hlt : l.stackTraces = false) (ra0 : Nat) (fa : Nat) (fb : Nat) (oa : Nat) (sv : Int32) (x1 : Int32) (y1 : Int32) (ot : Nat) (ou : Nat → Int64) (h0 : ¬ sv = 0) (h1 : ¬ sv = 1) : Met l yL_point wsL_point ({ frames := 8, cells := 1, slots := 6, locals := 127 }) (pce_ g cI cJ cZ [.ref ra0, .int sv, .int x1, .int y1, .ref ot] [(ra0, .inr (5, sr_ fa fb oa)), (ot, .inl (cJ, 1, .inr (.inl ou)))] sz) (va_Qi (fun (r : Int32) (_ : Unit) => r = 1) (fun (_ : Unit) t => wd_ g cI cJ cZ (va_A [(ra0, .inr (5, sr_ fa fb oa)), (ot, .inl (cJ, 1, .inr (.inl ou)))] sz) [(ra0, .inr (5, sr_ fa fb oa)), (ot, .inl (cJ, 1, .inr (.inl ou)))] t) (va_A [(ra0, .inr (5, sr_ fa fb oa)), (ot, .inl (cJ, 1, .inr (.inl ou)))] sz)) (1) (6) (va_A [(ra0, .inr (5, sr_ fa fb oa)), (ot, .inl (cJ, 1, .inr (.inl ou)))] sz) := by
  refine mo_ofWH (hh := [(0, 12, 15, 13), (0, 12, 19, 15), (0, 12, 23, 21)]) (cc := cL_point) (maxL := 6) (ret := (some .int)) (by decide) rfl ?_
  intro p e s m args below meth c s₁ B hml hv
  obtain ⟨rfl, ⟨hsz, hP, hK, hD0⟩, hev⟩ := hv
  have hx := B.exec
  have hb := B.bytes
  have hr := B.returns
  have hts := atoms_spec (ws := wsL_point) B.pre
  have hown : s.vm.findClass RL = some m.cls := findClass_of_methodNamed B.named
  have hlocks := B.notSynchronized
  have hT : c.exceptionTable.toList = tableOf [(0, 12, 15, 13), (0, 12, 19, 15), (0, 12, 23, 21)] := vx_table (x := yL_point) B (hts _ List.mem_cons_self)
  subst hsz
  have hD := hD0.self (sz := s.heap.size)
  generalize hAe : va_A [(ra0, .inr (5, sr_ fa fb oa)), (ot, .inl (cJ, 1, .inr (.inl ou)))] s.heap.size = A at hD hev ⊢
  have hA : ∀ q : Nat, s.heap.size ≤ q → A q := fun q h => by rw [← hAe]; exact Or.inr h
  have hS : va_S A s.heap s.heap [] := va_S.rf
  have hP : va_P g vwCl [(ra0, .inr (5, sr_ fa fb oa)), (ot, .inl (cJ, 1, .inr (.inl ou)))] s.heap := hP
  have hl := lv_entry ([.ref ra0, .int sv, .int x1, .int y1, .ref ot]) (n := 6) (Nat.le_of_ble_eq_true rfl)
  rw [lg_entry_eq]
  generalize (lg_sl ([.ref ra0, .int sv, .int x1, .int y1, .ref ot]) ++ List.replicate (6 - (lg_sl ([.ref ra0, .int sv, .int x1, .int y1, .ref ot])).length) Slot.unset).toArray = ls at hl ⊢
  have hl : lv_has ls 6 [(0, .ref ra0), (1, .int sv), (2, .int x1), (3, .int y1), (4, .ref ot)] := hl
  have hH0 : s.heap = s.heap := rfl
  refine lv_aload hx hb dL_point_0 (lv_at hl 4 rfl) ?_
  refine lv_iconst (v := 0) hx hb dL_point_2 (by decide) ?_
  refine lv_aload_n hx hb dL_point_3 rfl (lv_at hl 0 rfl) ?_
  refine lv_iload_n hx hb dL_point_4 rfl (lv_at hl 1 rfl) ?_
  refine lv_iload_n hx hb dL_point_5 rfl (lv_at hl 2 rfl) ?_
  refine lv_iload_n hx hb dL_point_6 rfl (lv_at hl 3 rfl) ?_
  have hPc := hP.sub (ws' := [(ra0, .inr (5, sr_ fa fb oa))]) [0] rfl
  have hDc := hD.sub (ws' := [(ra0, .inr (5, sr_ fa fb oa))]) [0] (by decide) rfl
  have hFc := va_free (wc := [(ra0, .inr (5, sr_ fa fb oa))]) hD hS hA [0] rfl
  refine vx_calli (vx_runV (As := [.int sv, .int x1, .int y1]) (rest := [.int 0, .ref ot]) ⟨hx, hb, hml, hown, hts⟩ (kX5_pointX l g cI cJ cZ s.heap.size hlt ra0 fa fb oa sv x1 y1 h0 h1) (cwV 3 hts gL_point_X5_point rfl rfl rfl (by decide +kernel) ⟨Nat.le_of_ble_eq_true rfl, Nat.le_of_ble_eq_true rfl⟩) (pve_ hev hS hFc hK hPc hDc (va_recv hK hPc (ci := 5) (q0 := 0) rfl rfl)) rfl rfl hl.1 rfl (lv_room (Nat.le_of_ble_eq_true rfl)) dL_point_7 ⟨by show 0 + 1 ≤ 1; omega, by show 0 + 6 ≤ 6; omega⟩) hS (fun q _ h => hFc q h) hFc (fun q _ h => hFc q h) (fun E ce q9 u t H1 locs ht hvm _ hBX hz1 hk1 hS hce hcv hcl => ?_) (fun r1 u t H1 locs ht hvm hw hB hz1 hk1 hS => ?_)
  · obtain ⟨hE, hP1, hK1, hD1⟩ := hBX
    rw [ht] at hP1
    obtain ⟨hP, hD⟩ := va_join (wr := [(ot, .inl (cJ, 1, .inr (.inl ou)))]) (w1 := [(ra0, .inr (5, sr_ fa fb oa))]) hP hD [0] [1] rfl rfl (by decide) (by decide) hk1 hFc hP1 hD1
    clear hPc hDc hFc hP1 hD1 hK1 hk1 hz1 hvm ht
    generalize H1 = H at hP hS hce ⊢
    have hP : va_P g vwCl [(ot, .inl (cJ, 1, .inr (.inl ou))), (ra0, .inr (5, sr_ fa fb oa))] H := hP
    have hD : va_D A [(ot, .inl (cJ, 1, .inr (.inl ou))), (ra0, .inr (5, sr_ fa fb oa))] := hD
    obtain rfl := hE
    refine vx_catch hown [] ⟨0, 12, 15, 13⟩ [⟨0, 12, 19, 15⟩, ⟨0, 12, 23, 21⟩] hT (fun z hz => absurd hz (by simp)) rfl (by decide) (hts (.classLink RL 13 "java/lang/IndexOutOfBoundsException") (List.mem_of_getElem? (i := 1) rfl)) (va_Nw.use rfl (hev.1.1 _ (List.mem_of_getElem? (i := 0) rfl))) hce hcv hcl ?_
    show W p l e _ s m _ below meth c H locs (0 + 1) (0 + 6) _ (F0 m 15 ls [.ref q9])
    refine lv_astore (lv' := [(5, .ref q9), (0, .ref ra0), (1, .int sv), (2, .int x1), (3, .int y1), (4, .ref ot)]) hx hb dL_point_15 hl (by decide) rfl (fun ls hl => ?_)
    refine lv_iconst (v := 1) hx hb dL_point_17 (by decide) ?_
    refine W.widen (k := 1) (n := 6) (by omega) (by omega) ?_
    have hP9 := hP.sub (ws' := [(ra0, .inr (5, sr_ fa fb oa)), (ot, .inl (cJ, 1, .inr (.inl ou)))]) [1, 0] rfl
    have hD9 := hD.sub (ws' := [(ra0, .inr (5, sr_ fa fb oa)), (ot, .inl (cJ, 1, .inr (.inl ou)))]) [1, 0] (by decide) rfl
    exact W.iret (v := 1) hx hb hr (fun t ht hW => ⟨⟨1, (), rfl, rfl, by rw [ht]; exact hP9, va_K.moved hW.alike hK, hD9⟩, hS.F ht⟩) hS.2.2 dL_point_18
  · obtain ⟨hP1, hK1, hD1⟩ := hB
    rw [ht] at hP1
    obtain ⟨hP, hD⟩ := va_join (wr := [(ot, .inl (cJ, 1, .inr (.inl ou)))]) (w1 := [(ra0, .inr (5, sr_ fa fb oa))]) hP hD [0] [1] rfl rfl (by decide) (by decide) hk1 hFc hP1 hD1
    clear hPc hDc hFc hP1 hD1 hK1 hk1 hz1 hvm ht
    generalize H1 = H at hP hS ⊢
    have hP : va_P g vwCl [(ot, .inl (cJ, 1, .inr (.inl ou))), (ra0, .inr (5, sr_ fa fb oa))] H := hP
    have hD : va_D A [(ot, .inl (cJ, 1, .inr (.inl ou))), (ra0, .inr (5, sr_ fa fb oa))] := hD
    exact hw.elim

set_option maxHeartbeats 1000000 in
set_option maxRecDepth 100000 in
theorem kL_locateX (l : Launch) (g : va_G) (cI cJ cZ : ClassId) (sz : Nat) (hlt : l.stackTraces = false) (ra0 : Nat) (fa : Nat) (fb : Nat) (oa : Nat) (sv : Int32) (x1 : Int32) (y1 : Int32) (ot : Nat) (ou : Nat → Int64) (h0 : ¬ sv = 0) (h1 : ¬ sv = 1) : Met l yL_locate wsL_locate ({ frames := 8, cells := 1, slots := 6, locals := 127 }) (pce_ g cI cJ cZ [.ref ra0, .int sv, .int x1, .int y1, .ref ot] [(ra0, .inr (5, sr_ fa fb oa)), (ot, .inl (cJ, 1, .inr (.inl ou)))] sz) (va_Qi (fun (r : Int32) (_ : Unit) => r = 1) (fun (_ : Unit) t => wd_ g cI cJ cZ (va_A [(ra0, .inr (5, sr_ fa fb oa)), (ot, .inl (cJ, 1, .inr (.inl ou)))] sz) [(ra0, .inr (5, sr_ fa fb oa)), (ot, .inl (cJ, 1, .inr (.inl ou)))] t) (va_A [(ra0, .inr (5, sr_ fa fb oa)), (ot, .inl (cJ, 1, .inr (.inl ou)))] sz)) (1) (6) (va_A [(ra0, .inr (5, sr_ fa fb oa)), (ot, .inl (cJ, 1, .inr (.inl ou)))] sz) := by
  refine mo_ofWH (hh := [(0, 12, 15, 13), (0, 12, 19, 15)]) (cc := cL_locate) (maxL := 6) (ret := (some .int)) (by decide) rfl ?_
  intro p e s m args below meth c s₁ B hml hv
  obtain ⟨rfl, ⟨hsz, hP, hK, hD0⟩, hev⟩ := hv
  have hx := B.exec
  have hb := B.bytes
  have hr := B.returns
  have hts := atoms_spec (ws := wsL_locate) B.pre
  have hown : s.vm.findClass RL = some m.cls := findClass_of_methodNamed B.named
  have hlocks := B.notSynchronized
  have hT : c.exceptionTable.toList = tableOf [(0, 12, 15, 13), (0, 12, 19, 15)] := vx_table (x := yL_locate) B (hts _ List.mem_cons_self)
  subst hsz
  have hD := hD0.self (sz := s.heap.size)
  generalize hAe : va_A [(ra0, .inr (5, sr_ fa fb oa)), (ot, .inl (cJ, 1, .inr (.inl ou)))] s.heap.size = A at hD hev ⊢
  have hA : ∀ q : Nat, s.heap.size ≤ q → A q := fun q h => by rw [← hAe]; exact Or.inr h
  have hS : va_S A s.heap s.heap [] := va_S.rf
  have hP : va_P g vwCl [(ra0, .inr (5, sr_ fa fb oa)), (ot, .inl (cJ, 1, .inr (.inl ou)))] s.heap := hP
  have hl := lv_entry ([.ref ra0, .int sv, .int x1, .int y1, .ref ot]) (n := 6) (Nat.le_of_ble_eq_true rfl)
  rw [lg_entry_eq]
  generalize (lg_sl ([.ref ra0, .int sv, .int x1, .int y1, .ref ot]) ++ List.replicate (6 - (lg_sl ([.ref ra0, .int sv, .int x1, .int y1, .ref ot])).length) Slot.unset).toArray = ls at hl ⊢
  have hl : lv_has ls 6 [(0, .ref ra0), (1, .int sv), (2, .int x1), (3, .int y1), (4, .ref ot)] := hl
  have hH0 : s.heap = s.heap := rfl
  refine lv_aload hx hb dL_locate_0 (lv_at hl 4 rfl) ?_
  refine lv_iconst (v := 0) hx hb dL_locate_2 (by decide) ?_
  refine lv_aload_n hx hb dL_locate_3 rfl (lv_at hl 0 rfl) ?_
  refine lv_iload_n hx hb dL_locate_4 rfl (lv_at hl 1 rfl) ?_
  refine lv_iload_n hx hb dL_locate_5 rfl (lv_at hl 2 rfl) ?_
  refine lv_iload_n hx hb dL_locate_6 rfl (lv_at hl 3 rfl) ?_
  have hPc := hP.sub (ws' := [(ra0, .inr (5, sr_ fa fb oa))]) [0] rfl
  have hDc := hD.sub (ws' := [(ra0, .inr (5, sr_ fa fb oa))]) [0] (by decide) rfl
  have hFc := va_free (wc := [(ra0, .inr (5, sr_ fa fb oa))]) hD hS hA [0] rfl
  refine vx_calli (vx_runV (As := [.int sv, .int x1, .int y1]) (rest := [.int 0, .ref ot]) ⟨hx, hb, hml, hown, hts⟩ (kX5_locateX l g cI cJ cZ s.heap.size hlt ra0 fa fb oa sv x1 y1 h0 h1) (cwV 3 hts gL_locate_X5_locate rfl rfl rfl (by decide +kernel) ⟨Nat.le_of_ble_eq_true rfl, Nat.le_of_ble_eq_true rfl⟩) (pve_ hev hS hFc hK hPc hDc (va_recv hK hPc (ci := 5) (q0 := 0) rfl rfl)) rfl rfl hl.1 rfl (lv_room (Nat.le_of_ble_eq_true rfl)) dL_locate_7 ⟨by show 0 + 1 ≤ 1; omega, by show 0 + 6 ≤ 6; omega⟩) hS (fun q _ h => hFc q h) hFc (fun q _ h => hFc q h) (fun E ce q9 u t H1 locs ht hvm _ hBX hz1 hk1 hS hce hcv hcl => ?_) (fun r1 u t H1 locs ht hvm hw hB hz1 hk1 hS => ?_)
  · obtain ⟨hE, hP1, hK1, hD1⟩ := hBX
    rw [ht] at hP1
    obtain ⟨hP, hD⟩ := va_join (wr := [(ot, .inl (cJ, 1, .inr (.inl ou)))]) (w1 := [(ra0, .inr (5, sr_ fa fb oa))]) hP hD [0] [1] rfl rfl (by decide) (by decide) hk1 hFc hP1 hD1
    clear hPc hDc hFc hP1 hD1 hK1 hk1 hz1 hvm ht
    generalize H1 = H at hP hS hce ⊢
    have hP : va_P g vwCl [(ot, .inl (cJ, 1, .inr (.inl ou))), (ra0, .inr (5, sr_ fa fb oa))] H := hP
    have hD : va_D A [(ot, .inl (cJ, 1, .inr (.inl ou))), (ra0, .inr (5, sr_ fa fb oa))] := hD
    obtain rfl := hE
    refine vx_catch hown [] ⟨0, 12, 15, 13⟩ [⟨0, 12, 19, 15⟩] hT (fun z hz => absurd hz (by simp)) rfl (by decide) (hts (.classLink RL 13 "java/lang/IndexOutOfBoundsException") (List.mem_of_getElem? (i := 1) rfl)) (va_Nw.use rfl (hev.1.1 _ (List.mem_of_getElem? (i := 0) rfl))) hce hcv hcl ?_
    show W p l e _ s m _ below meth c H locs (0 + 1) (0 + 6) _ (F0 m 15 ls [.ref q9])
    refine lv_astore (lv' := [(5, .ref q9), (0, .ref ra0), (1, .int sv), (2, .int x1), (3, .int y1), (4, .ref ot)]) hx hb dL_locate_15 hl (by decide) rfl (fun ls hl => ?_)
    refine lv_iconst (v := 1) hx hb dL_locate_17 (by decide) ?_
    refine W.widen (k := 1) (n := 6) (by omega) (by omega) ?_
    have hP9 := hP.sub (ws' := [(ra0, .inr (5, sr_ fa fb oa)), (ot, .inl (cJ, 1, .inr (.inl ou)))]) [1, 0] rfl
    have hD9 := hD.sub (ws' := [(ra0, .inr (5, sr_ fa fb oa)), (ot, .inl (cJ, 1, .inr (.inl ou)))]) [1, 0] (by decide) rfl
    exact W.iret (v := 1) hx hb hr (fun t ht hW => ⟨⟨1, (), rfl, rfl, by rw [ht]; exact hP9, va_K.moved hW.alike hK, hD9⟩, hS.F ht⟩) hS.2.2 dL_locate_18
  · obtain ⟨hP1, hK1, hD1⟩ := hB
    rw [ht] at hP1
    obtain ⟨hP, hD⟩ := va_join (wr := [(ot, .inl (cJ, 1, .inr (.inl ou)))]) (w1 := [(ra0, .inr (5, sr_ fa fb oa))]) hP hD [0] [1] rfl rfl (by decide) (by decide) hk1 hFc hP1 hD1
    clear hPc hDc hFc hP1 hD1 hK1 hk1 hz1 hvm ht
    generalize H1 = H at hP hS ⊢
    have hP : va_P g vwCl [(ot, .inl (cJ, 1, .inr (.inl ou))), (ra0, .inr (5, sr_ fa fb oa))] H := hP
    have hD : va_D A [(ot, .inl (cJ, 1, .inr (.inl ou))), (ra0, .inr (5, sr_ fa fb oa))] := hD
    exact hw.elim

set_option maxHeartbeats 1000000 in
set_option maxRecDepth 100000 in
theorem kL_countX (l : Launch) (g : va_G) (cI cJ cZ : ClassId) (sz : Nat) (hlt : l.stackTraces = false) (ra0 : Nat) (fa : Nat) (fb : Nat) (oa : Nat) (sv : Int32) (wv : Int32) (ot : Nat) (ou : Nat → Int64) (h0 : ¬ sv = 0) (h1 : ¬ sv = 1) : Met l yL_count wsL_count ({ frames := 8, cells := 1, slots := 6, locals := 126 }) (pce_ g cI cJ cZ [.ref ra0, .int sv, .int wv, .ref ot] [(ra0, .inr (5, sr_ fa fb oa)), (ot, .inl (cJ, 1, .inr (.inl ou)))] sz) (va_Qi (fun (r : Int32) (_ : Unit) => r = 1) (fun (_ : Unit) t => wd_ g cI cJ cZ (va_A [(ra0, .inr (5, sr_ fa fb oa)), (ot, .inl (cJ, 1, .inr (.inl ou)))] sz) [(ra0, .inr (5, sr_ fa fb oa)), (ot, .inl (cJ, 1, .inr (.inl ou)))] t) (va_A [(ra0, .inr (5, sr_ fa fb oa)), (ot, .inl (cJ, 1, .inr (.inl ou)))] sz)) (1) (6) (va_A [(ra0, .inr (5, sr_ fa fb oa)), (ot, .inl (cJ, 1, .inr (.inl ou)))] sz) := by
  refine mo_ofWH (hh := [(0, 10, 13, 13)]) (cc := cL_count) (maxL := 5) (ret := (some .int)) (by decide) rfl ?_
  intro p e s m args below meth c s₁ B hml hv
  obtain ⟨rfl, ⟨hsz, hP, hK, hD0⟩, hev⟩ := hv
  have hx := B.exec
  have hb := B.bytes
  have hr := B.returns
  have hts := atoms_spec (ws := wsL_count) B.pre
  have hown : s.vm.findClass RL = some m.cls := findClass_of_methodNamed B.named
  have hlocks := B.notSynchronized
  have hT : c.exceptionTable.toList = tableOf [(0, 10, 13, 13)] := vx_table (x := yL_count) B (hts _ List.mem_cons_self)
  subst hsz
  have hD := hD0.self (sz := s.heap.size)
  generalize hAe : va_A [(ra0, .inr (5, sr_ fa fb oa)), (ot, .inl (cJ, 1, .inr (.inl ou)))] s.heap.size = A at hD hev ⊢
  have hA : ∀ q : Nat, s.heap.size ≤ q → A q := fun q h => by rw [← hAe]; exact Or.inr h
  have hS : va_S A s.heap s.heap [] := va_S.rf
  have hP : va_P g vwCl [(ra0, .inr (5, sr_ fa fb oa)), (ot, .inl (cJ, 1, .inr (.inl ou)))] s.heap := hP
  have hl := lv_entry ([.ref ra0, .int sv, .int wv, .ref ot]) (n := 5) (Nat.le_of_ble_eq_true rfl)
  rw [lg_entry_eq]
  generalize (lg_sl ([.ref ra0, .int sv, .int wv, .ref ot]) ++ List.replicate (5 - (lg_sl ([.ref ra0, .int sv, .int wv, .ref ot])).length) Slot.unset).toArray = ls at hl ⊢
  have hl : lv_has ls 5 [(0, .ref ra0), (1, .int sv), (2, .int wv), (3, .ref ot)] := hl
  have hH0 : s.heap = s.heap := rfl
  refine lv_aload_n hx hb dL_count_0 rfl (lv_at hl 3 rfl) ?_
  refine lv_iconst (v := 0) hx hb dL_count_1 (by decide) ?_
  refine lv_aload_n hx hb dL_count_2 rfl (lv_at hl 0 rfl) ?_
  refine lv_iload_n hx hb dL_count_3 rfl (lv_at hl 1 rfl) ?_
  refine lv_iload_n hx hb dL_count_4 rfl (lv_at hl 2 rfl) ?_
  have hPc := hP.sub (ws' := [(ra0, .inr (5, sr_ fa fb oa))]) [0] rfl
  have hDc := hD.sub (ws' := [(ra0, .inr (5, sr_ fa fb oa))]) [0] (by decide) rfl
  have hFc := va_free (wc := [(ra0, .inr (5, sr_ fa fb oa))]) hD hS hA [0] rfl
  refine vx_calli (vx_runV (As := [.int sv, .int wv]) (rest := [.int 0, .ref ot]) ⟨hx, hb, hml, hown, hts⟩ (kX5_countX l g cI cJ cZ s.heap.size hlt ra0 fa fb oa sv wv h0 h1) (cwV 2 hts gL_count_X5_count rfl rfl rfl (by decide +kernel) ⟨Nat.le_of_ble_eq_true rfl, Nat.le_of_ble_eq_true rfl⟩) (pve_ hev hS hFc hK hPc hDc (va_recv hK hPc (ci := 5) (q0 := 0) rfl rfl)) rfl rfl hl.1 rfl (lv_room (Nat.le_of_ble_eq_true rfl)) dL_count_5 ⟨by show 0 + 1 ≤ 1; omega, by show 0 + 6 ≤ 6; omega⟩) hS (fun q _ h => hFc q h) hFc (fun q _ h => hFc q h) (fun E ce q9 u t H1 locs ht hvm _ hBX hz1 hk1 hS hce hcv hcl => ?_) (fun r1 u t H1 locs ht hvm hw hB hz1 hk1 hS => ?_)
  · obtain ⟨hE, hP1, hK1, hD1⟩ := hBX
    rw [ht] at hP1
    obtain ⟨hP, hD⟩ := va_join (wr := [(ot, .inl (cJ, 1, .inr (.inl ou)))]) (w1 := [(ra0, .inr (5, sr_ fa fb oa))]) hP hD [0] [1] rfl rfl (by decide) (by decide) hk1 hFc hP1 hD1
    clear hPc hDc hFc hP1 hD1 hK1 hk1 hz1 hvm ht
    generalize H1 = H at hP hS hce ⊢
    have hP : va_P g vwCl [(ot, .inl (cJ, 1, .inr (.inl ou))), (ra0, .inr (5, sr_ fa fb oa))] H := hP
    have hD : va_D A [(ot, .inl (cJ, 1, .inr (.inl ou))), (ra0, .inr (5, sr_ fa fb oa))] := hD
    obtain rfl := hE
    refine vx_catch hown [] ⟨0, 10, 13, 13⟩ [] hT (fun z hz => absurd hz (by simp)) rfl (by decide) (hts (.classLink RL 13 "java/lang/IndexOutOfBoundsException") (List.mem_of_getElem? (i := 1) rfl)) (va_Nw.use rfl (hev.1.1 _ (List.mem_of_getElem? (i := 0) rfl))) hce hcv hcl ?_
    show W p l e _ s m _ below meth c H locs (0 + 1) (0 + 6) _ (F0 m 13 ls [.ref q9])
    refine lv_astore (lv' := [(4, .ref q9), (0, .ref ra0), (1, .int sv), (2, .int wv), (3, .ref ot)]) hx hb dL_count_13 hl (by decide) rfl (fun ls hl => ?_)
    refine lv_iconst (v := 1) hx hb dL_count_15 (by decide) ?_
    refine W.widen (k := 1) (n := 6) (by omega) (by omega) ?_
    have hP9 := hP.sub (ws' := [(ra0, .inr (5, sr_ fa fb oa)), (ot, .inl (cJ, 1, .inr (.inl ou)))]) [1, 0] rfl
    have hD9 := hD.sub (ws' := [(ra0, .inr (5, sr_ fa fb oa)), (ot, .inl (cJ, 1, .inr (.inl ou)))]) [1, 0] (by decide) rfl
    exact W.iret (v := 1) hx hb hr (fun t ht hW => ⟨⟨1, (), rfl, rfl, by rw [ht]; exact hP9, va_K.moved hW.alike hK, hD9⟩, hS.F ht⟩) hS.2.2 dL_count_16
  · obtain ⟨hP1, hK1, hD1⟩ := hB
    rw [ht] at hP1
    obtain ⟨hP, hD⟩ := va_join (wr := [(ot, .inl (cJ, 1, .inr (.inl ou)))]) (w1 := [(ra0, .inr (5, sr_ fa fb oa))]) hP hD [0] [1] rfl rfl (by decide) (by decide) hk1 hFc hP1 hD1
    clear hPc hDc hFc hP1 hD1 hK1 hk1 hz1 hvm ht
    generalize H1 = H at hP hS ⊢
    have hP : va_P g vwCl [(ot, .inl (cJ, 1, .inr (.inl ou))), (ra0, .inr (5, sr_ fa fb oa))] H := hP
    have hD : va_D A [(ot, .inl (cJ, 1, .inr (.inl ou))), (ra0, .inr (5, sr_ fa fb oa))] := hD
    exact hw.elim

set_option maxHeartbeats 1000000 in
set_option maxRecDepth 100000 in
theorem kL_dimensionX (l : Launch) (g : va_G) (cI cJ cZ : ClassId) (sz : Nat) (hlt : l.stackTraces = false) (ra0 : Nat) (fa : Nat) (fb : Nat) (oa : Nat) (sv : Int32) (ot : Nat) (ou : Nat → Int64) (h0 : ¬ sv = 0) (h1 : ¬ sv = 1) : Met l yL_dimension wsL_dimension ({ frames := 8, cells := 1, slots := 6, locals := 125 }) (pce_ g cI cJ cZ [.ref ra0, .int sv, .ref ot] [(ra0, .inr (5, sr_ fa fb oa)), (ot, .inl (cJ, 1, .inr (.inl ou)))] sz) (va_Qi (fun (r : Int32) (_ : Unit) => r = 1) (fun (_ : Unit) t => wd_ g cI cJ cZ (va_A [(ra0, .inr (5, sr_ fa fb oa)), (ot, .inl (cJ, 1, .inr (.inl ou)))] sz) [(ra0, .inr (5, sr_ fa fb oa)), (ot, .inl (cJ, 1, .inr (.inl ou)))] t) (va_A [(ra0, .inr (5, sr_ fa fb oa)), (ot, .inl (cJ, 1, .inr (.inl ou)))] sz)) (1) (6) (va_A [(ra0, .inr (5, sr_ fa fb oa)), (ot, .inl (cJ, 1, .inr (.inl ou)))] sz) := by
  refine mo_ofWH (hh := [(0, 9, 12, 13)]) (cc := cL_dimension) (maxL := 4) (ret := (some .int)) (by decide) rfl ?_
  intro p e s m args below meth c s₁ B hml hv
  obtain ⟨rfl, ⟨hsz, hP, hK, hD0⟩, hev⟩ := hv
  have hx := B.exec
  have hb := B.bytes
  have hr := B.returns
  have hts := atoms_spec (ws := wsL_dimension) B.pre
  have hown : s.vm.findClass RL = some m.cls := findClass_of_methodNamed B.named
  have hlocks := B.notSynchronized
  have hT : c.exceptionTable.toList = tableOf [(0, 9, 12, 13)] := vx_table (x := yL_dimension) B (hts _ List.mem_cons_self)
  subst hsz
  have hD := hD0.self (sz := s.heap.size)
  generalize hAe : va_A [(ra0, .inr (5, sr_ fa fb oa)), (ot, .inl (cJ, 1, .inr (.inl ou)))] s.heap.size = A at hD hev ⊢
  have hA : ∀ q : Nat, s.heap.size ≤ q → A q := fun q h => by rw [← hAe]; exact Or.inr h
  have hS : va_S A s.heap s.heap [] := va_S.rf
  have hP : va_P g vwCl [(ra0, .inr (5, sr_ fa fb oa)), (ot, .inl (cJ, 1, .inr (.inl ou)))] s.heap := hP
  have hl := lv_entry ([.ref ra0, .int sv, .ref ot]) (n := 4) (Nat.le_of_ble_eq_true rfl)
  rw [lg_entry_eq]
  generalize (lg_sl ([.ref ra0, .int sv, .ref ot]) ++ List.replicate (4 - (lg_sl ([.ref ra0, .int sv, .ref ot])).length) Slot.unset).toArray = ls at hl ⊢
  have hl : lv_has ls 4 [(0, .ref ra0), (1, .int sv), (2, .ref ot)] := hl
  have hH0 : s.heap = s.heap := rfl
  refine lv_aload_n hx hb dL_dimension_0 rfl (lv_at hl 2 rfl) ?_
  refine lv_iconst (v := 0) hx hb dL_dimension_1 (by decide) ?_
  refine lv_aload_n hx hb dL_dimension_2 rfl (lv_at hl 0 rfl) ?_
  refine lv_iload_n hx hb dL_dimension_3 rfl (lv_at hl 1 rfl) ?_
  have hPc := hP.sub (ws' := [(ra0, .inr (5, sr_ fa fb oa))]) [0] rfl
  have hDc := hD.sub (ws' := [(ra0, .inr (5, sr_ fa fb oa))]) [0] (by decide) rfl
  have hFc := va_free (wc := [(ra0, .inr (5, sr_ fa fb oa))]) hD hS hA [0] rfl
  refine vx_calli (vx_runV (As := [.int sv]) (rest := [.int 0, .ref ot]) ⟨hx, hb, hml, hown, hts⟩ (kX5_dimensionX l g cI cJ cZ s.heap.size hlt ra0 fa fb oa sv h0 h1) (cwV 1 hts gL_dimension_X5_dimension rfl rfl rfl (by decide +kernel) ⟨Nat.le_of_ble_eq_true rfl, Nat.le_of_ble_eq_true rfl⟩) (pve_ hev hS hFc hK hPc hDc (va_recv hK hPc (ci := 5) (q0 := 0) rfl rfl)) rfl rfl hl.1 rfl (lv_room (Nat.le_of_ble_eq_true rfl)) dL_dimension_4 ⟨by show 0 + 1 ≤ 1; omega, by show 0 + 6 ≤ 6; omega⟩) hS (fun q _ h => hFc q h) hFc (fun q _ h => hFc q h) (fun E ce q9 u t H1 locs ht hvm _ hBX hz1 hk1 hS hce hcv hcl => ?_) (fun r1 u t H1 locs ht hvm hw hB hz1 hk1 hS => ?_)
  · obtain ⟨hE, hP1, hK1, hD1⟩ := hBX
    rw [ht] at hP1
    obtain ⟨hP, hD⟩ := va_join (wr := [(ot, .inl (cJ, 1, .inr (.inl ou)))]) (w1 := [(ra0, .inr (5, sr_ fa fb oa))]) hP hD [0] [1] rfl rfl (by decide) (by decide) hk1 hFc hP1 hD1
    clear hPc hDc hFc hP1 hD1 hK1 hk1 hz1 hvm ht
    generalize H1 = H at hP hS hce ⊢
    have hP : va_P g vwCl [(ot, .inl (cJ, 1, .inr (.inl ou))), (ra0, .inr (5, sr_ fa fb oa))] H := hP
    have hD : va_D A [(ot, .inl (cJ, 1, .inr (.inl ou))), (ra0, .inr (5, sr_ fa fb oa))] := hD
    obtain rfl := hE
    refine vx_catch hown [] ⟨0, 9, 12, 13⟩ [] hT (fun z hz => absurd hz (by simp)) rfl (by decide) (hts (.classLink RL 13 "java/lang/IndexOutOfBoundsException") (List.mem_of_getElem? (i := 1) rfl)) (va_Nw.use rfl (hev.1.1 _ (List.mem_of_getElem? (i := 0) rfl))) hce hcv hcl ?_
    show W p l e _ s m _ below meth c H locs (0 + 1) (0 + 6) _ (F0 m 12 ls [.ref q9])
    refine lv_astore_n (lv' := [(3, .ref q9), (0, .ref ra0), (1, .int sv), (2, .ref ot)]) hx hb dL_dimension_12 rfl hl (by decide) rfl (fun ls hl => ?_)
    refine lv_iconst (v := 1) hx hb dL_dimension_13 (by decide) ?_
    refine W.widen (k := 1) (n := 6) (by omega) (by omega) ?_
    have hP9 := hP.sub (ws' := [(ra0, .inr (5, sr_ fa fb oa)), (ot, .inl (cJ, 1, .inr (.inl ou)))]) [1, 0] rfl
    have hD9 := hD.sub (ws' := [(ra0, .inr (5, sr_ fa fb oa)), (ot, .inl (cJ, 1, .inr (.inl ou)))]) [1, 0] (by decide) rfl
    exact W.iret (v := 1) hx hb hr (fun t ht hW => ⟨⟨1, (), rfl, rfl, by rw [ht]; exact hP9, va_K.moved hW.alike hK, hD9⟩, hS.F ht⟩) hS.2.2 dL_dimension_14
  · obtain ⟨hP1, hK1, hD1⟩ := hB
    rw [ht] at hP1
    obtain ⟨hP, hD⟩ := va_join (wr := [(ot, .inl (cJ, 1, .inr (.inl ou)))]) (w1 := [(ra0, .inr (5, sr_ fa fb oa))]) hP hD [0] [1] rfl rfl (by decide) (by decide) hk1 hFc hP1 hD1
    clear hPc hDc hFc hP1 hD1 hK1 hk1 hz1 hvm ht
    generalize H1 = H at hP hS ⊢
    have hP : va_P g vwCl [(ot, .inl (cJ, 1, .inr (.inl ou))), (ra0, .inr (5, sr_ fa fb oa))] H := hP
    have hD : va_D A [(ot, .inl (cJ, 1, .inr (.inl ou))), (ra0, .inr (5, sr_ fa fb oa))] := hD
    exact hw.elim

set_option maxHeartbeats 1000000 in
set_option maxRecDepth 100000 in
theorem kL_entryX (l : Launch) (g : va_G) (cI cJ cZ : ClassId) (sz : Nat) (hlt : l.stackTraces = false) (ra0 : Nat) (fa : Nat) (fb : Nat) (oa : Nat) (o1 : Int32) (o2 : Int32) (ot : Nat) (ou : Nat → Int64) (h0 : wi_ o1 0 2 = 0 ∨ wi_ o2 0 2 = 0) : Met l yL_entry wsL_entry ({ frames := 7, cells := 1, slots := 6, locals := 104 }) (pce_ g cI cJ cZ [.ref ra0, .int o1, .int o2, .ref ot] [(ra0, .inr (5, sr_ fa fb oa)), (ot, .inl (cJ, 1, .inr (.inl ou)))] sz) (va_Qi (fun (r : Int32) (_ : Unit) => r = 1) (fun (_ : Unit) t => wd_ g cI cJ cZ (va_A [(ra0, .inr (5, sr_ fa fb oa)), (ot, .inl (cJ, 1, .inr (.inl ou)))] sz) [(ra0, .inr (5, sr_ fa fb oa)), (ot, .inl (cJ, 1, .inr (.inl ou)))] t) (va_A [(ra0, .inr (5, sr_ fa fb oa)), (ot, .inl (cJ, 1, .inr (.inl ou)))] sz)) (1) (6) (va_A [(ra0, .inr (5, sr_ fa fb oa)), (ot, .inl (cJ, 1, .inr (.inl ou)))] sz) := by
  refine mo_ofWH (hh := [(0, 10, 13, 13)]) (cc := cL_entry) (maxL := 5) (ret := (some .int)) (by decide) rfl ?_
  intro p e s m args below meth c s₁ B hml hv
  obtain ⟨rfl, ⟨hsz, hP, hK, hD0⟩, hev⟩ := hv
  have hx := B.exec
  have hb := B.bytes
  have hr := B.returns
  have hts := atoms_spec (ws := wsL_entry) B.pre
  have hown : s.vm.findClass RL = some m.cls := findClass_of_methodNamed B.named
  have hlocks := B.notSynchronized
  have hT : c.exceptionTable.toList = tableOf [(0, 10, 13, 13)] := vx_table (x := yL_entry) B (hts _ List.mem_cons_self)
  subst hsz
  have hD := hD0.self (sz := s.heap.size)
  generalize hAe : va_A [(ra0, .inr (5, sr_ fa fb oa)), (ot, .inl (cJ, 1, .inr (.inl ou)))] s.heap.size = A at hD hev ⊢
  have hA : ∀ q : Nat, s.heap.size ≤ q → A q := fun q h => by rw [← hAe]; exact Or.inr h
  have hS : va_S A s.heap s.heap [] := va_S.rf
  have hP : va_P g vwCl [(ra0, .inr (5, sr_ fa fb oa)), (ot, .inl (cJ, 1, .inr (.inl ou)))] s.heap := hP
  have hl := lv_entry ([.ref ra0, .int o1, .int o2, .ref ot]) (n := 5) (Nat.le_of_ble_eq_true rfl)
  rw [lg_entry_eq]
  generalize (lg_sl ([.ref ra0, .int o1, .int o2, .ref ot]) ++ List.replicate (5 - (lg_sl ([.ref ra0, .int o1, .int o2, .ref ot])).length) Slot.unset).toArray = ls at hl ⊢
  have hl : lv_has ls 5 [(0, .ref ra0), (1, .int o1), (2, .int o2), (3, .ref ot)] := hl
  have hH0 : s.heap = s.heap := rfl
  refine lv_aload_n hx hb dL_entry_0 rfl (lv_at hl 3 rfl) ?_
  refine lv_iconst (v := 0) hx hb dL_entry_1 (by decide) ?_
  refine lv_aload_n hx hb dL_entry_2 rfl (lv_at hl 0 rfl) ?_
  refine lv_iload_n hx hb dL_entry_3 rfl (lv_at hl 1 rfl) ?_
  refine lv_iload_n hx hb dL_entry_4 rfl (lv_at hl 2 rfl) ?_
  have hPc := hP.sub (ws' := [(ra0, .inr (5, sr_ fa fb oa))]) [0] rfl
  have hDc := hD.sub (ws' := [(ra0, .inr (5, sr_ fa fb oa))]) [0] (by decide) rfl
  have hFc := va_free (wc := [(ra0, .inr (5, sr_ fa fb oa))]) hD hS hA [0] rfl
  refine vx_calli (vx_runV (As := [.int o1, .int o2]) (rest := [.int 0, .ref ot]) ⟨hx, hb, hml, hown, hts⟩ (kX5_entryX l g cI cJ cZ s.heap.size hlt ra0 fa fb oa o1 o2 h0) (cwV 2 hts gL_entry_X5_entry rfl rfl rfl (by decide +kernel) ⟨Nat.le_of_ble_eq_true rfl, Nat.le_of_ble_eq_true rfl⟩) (pve_ hev hS hFc hK hPc hDc (va_recv hK hPc (ci := 5) (q0 := 0) rfl rfl)) rfl rfl hl.1 rfl (lv_room (Nat.le_of_ble_eq_true rfl)) dL_entry_5 ⟨by show 0 + 1 ≤ 1; omega, by show 0 + 6 ≤ 6; omega⟩) hS (fun q _ h => hFc q h) hFc (fun q _ h => hFc q h) (fun E ce q9 u t H1 locs ht hvm _ hBX hz1 hk1 hS hce hcv hcl => ?_) (fun r1 u t H1 locs ht hvm hw hB hz1 hk1 hS => ?_)
  · obtain ⟨hE, hP1, hK1, hD1⟩ := hBX
    rw [ht] at hP1
    obtain ⟨hP, hD⟩ := va_join (wr := [(ot, .inl (cJ, 1, .inr (.inl ou)))]) (w1 := [(ra0, .inr (5, sr_ fa fb oa))]) hP hD [0] [1] rfl rfl (by decide) (by decide) hk1 hFc hP1 hD1
    clear hPc hDc hFc hP1 hD1 hK1 hk1 hz1 hvm ht
    generalize H1 = H at hP hS hce ⊢
    have hP : va_P g vwCl [(ot, .inl (cJ, 1, .inr (.inl ou))), (ra0, .inr (5, sr_ fa fb oa))] H := hP
    have hD : va_D A [(ot, .inl (cJ, 1, .inr (.inl ou))), (ra0, .inr (5, sr_ fa fb oa))] := hD
    obtain rfl := hE
    refine vx_catch hown [] ⟨0, 10, 13, 13⟩ [] hT (fun z hz => absurd hz (by simp)) rfl (by decide) (hts (.classLink RL 13 "java/lang/IndexOutOfBoundsException") (List.mem_of_getElem? (i := 1) rfl)) (va_Nw.use rfl (hev.1.1 _ (List.mem_of_getElem? (i := 0) rfl))) hce hcv hcl ?_
    show W p l e _ s m _ below meth c H locs (0 + 1) (0 + 6) _ (F0 m 13 ls [.ref q9])
    refine lv_astore (lv' := [(4, .ref q9), (0, .ref ra0), (1, .int o1), (2, .int o2), (3, .ref ot)]) hx hb dL_entry_13 hl (by decide) rfl (fun ls hl => ?_)
    refine lv_iconst (v := 1) hx hb dL_entry_15 (by decide) ?_
    refine W.widen (k := 1) (n := 6) (by omega) (by omega) ?_
    have hP9 := hP.sub (ws' := [(ra0, .inr (5, sr_ fa fb oa)), (ot, .inl (cJ, 1, .inr (.inl ou)))]) [1, 0] rfl
    have hD9 := hD.sub (ws' := [(ra0, .inr (5, sr_ fa fb oa)), (ot, .inl (cJ, 1, .inr (.inl ou)))]) [1, 0] (by decide) rfl
    exact W.iret (v := 1) hx hb hr (fun t ht hW => ⟨⟨1, (), rfl, rfl, by rw [ht]; exact hP9, va_K.moved hW.alike hK, hD9⟩, hS.F ht⟩) hS.2.2 dL_entry_16
  · obtain ⟨hP1, hK1, hD1⟩ := hB
    rw [ht] at hP1
    obtain ⟨hP, hD⟩ := va_join (wr := [(ot, .inl (cJ, 1, .inr (.inl ou)))]) (w1 := [(ra0, .inr (5, sr_ fa fb oa))]) hP hD [0] [1] rfl rfl (by decide) (by decide) hk1 hFc hP1 hD1
    clear hPc hDc hFc hP1 hD1 hK1 hk1 hz1 hvm ht
    generalize H1 = H at hP hS ⊢
    have hP : va_P g vwCl [(ot, .inl (cJ, 1, .inr (.inl ou))), (ra0, .inr (5, sr_ fa fb oa))] H := hP
    have hD : va_D A [(ot, .inl (cJ, 1, .inr (.inl ou))), (ra0, .inr (5, sr_ fa fb oa))] := hD
    exact hw.elim

set_option maxHeartbeats 1000000 in
set_option maxRecDepth 100000 in
theorem kL_isX (l : Launch) (g : va_G) (cI cJ cZ : ClassId) (sz : Nat) (hlt : l.stackTraces = false) (ra0 : Nat) (fa : Nat) (fb : Nat) (oa : Nat) (wv : Int32) (ot : Nat) (ou : Nat → Int64) (h0 : wi_ wv 0 8 = 0) : Met l yL_is wsL_is ({ frames := 7, cells := 1, slots := 6, locals := 103 }) (pce_ g cI cJ cZ [.ref ra0, .int wv, .ref ot] [(ra0, .inr (5, sr_ fa fb oa)), (ot, .inl (cJ, 1, .inr (.inl ou)))] sz) (va_Qi (fun (r : Int32) (_ : Unit) => r = 1) (fun (_ : Unit) t => wd_ g cI cJ cZ (va_A [(ra0, .inr (5, sr_ fa fb oa)), (ot, .inl (cJ, 1, .inr (.inl ou)))] sz) [(ra0, .inr (5, sr_ fa fb oa)), (ot, .inl (cJ, 1, .inr (.inl ou)))] t) (va_A [(ra0, .inr (5, sr_ fa fb oa)), (ot, .inl (cJ, 1, .inr (.inl ou)))] sz)) (1) (6) (va_A [(ra0, .inr (5, sr_ fa fb oa)), (ot, .inl (cJ, 1, .inr (.inl ou)))] sz) := by
  refine mo_ofWH (hh := [(0, 16, 19, 13)]) (cc := cL_is) (maxL := 4) (ret := (some .int)) (by decide) rfl ?_
  intro p e s m args below meth c s₁ B hml hv
  obtain ⟨rfl, ⟨hsz, hP, hK, hD0⟩, hev⟩ := hv
  have hx := B.exec
  have hb := B.bytes
  have hr := B.returns
  have hts := atoms_spec (ws := wsL_is) B.pre
  have hown : s.vm.findClass RL = some m.cls := findClass_of_methodNamed B.named
  have hlocks := B.notSynchronized
  have hT : c.exceptionTable.toList = tableOf [(0, 16, 19, 13)] := vx_table (x := yL_is) B (hts _ List.mem_cons_self)
  subst hsz
  have hD := hD0.self (sz := s.heap.size)
  generalize hAe : va_A [(ra0, .inr (5, sr_ fa fb oa)), (ot, .inl (cJ, 1, .inr (.inl ou)))] s.heap.size = A at hD hev ⊢
  have hA : ∀ q : Nat, s.heap.size ≤ q → A q := fun q h => by rw [← hAe]; exact Or.inr h
  have hS : va_S A s.heap s.heap [] := va_S.rf
  have hP : va_P g vwCl [(ra0, .inr (5, sr_ fa fb oa)), (ot, .inl (cJ, 1, .inr (.inl ou)))] s.heap := hP
  have hl := lv_entry ([.ref ra0, .int wv, .ref ot]) (n := 4) (Nat.le_of_ble_eq_true rfl)
  rw [lg_entry_eq]
  generalize (lg_sl ([.ref ra0, .int wv, .ref ot]) ++ List.replicate (4 - (lg_sl ([.ref ra0, .int wv, .ref ot])).length) Slot.unset).toArray = ls at hl ⊢
  have hl : lv_has ls 4 [(0, .ref ra0), (1, .int wv), (2, .ref ot)] := hl
  have hH0 : s.heap = s.heap := rfl
  refine lv_aload_n hx hb dL_is_0 rfl (lv_at hl 2 rfl) ?_
  refine lv_iconst (v := 0) hx hb dL_is_1 (by decide) ?_
  refine lv_aload_n hx hb dL_is_2 rfl (lv_at hl 0 rfl) ?_
  refine lv_iload_n hx hb dL_is_3 rfl (lv_at hl 1 rfl) ?_
  have hPc := hP.sub (ws' := [(ra0, .inr (5, sr_ fa fb oa))]) [0] rfl
  have hDc := hD.sub (ws' := [(ra0, .inr (5, sr_ fa fb oa))]) [0] (by decide) rfl
  have hFc := va_free (wc := [(ra0, .inr (5, sr_ fa fb oa))]) hD hS hA [0] rfl
  refine vx_calli (vx_runV (As := [.int wv]) (rest := [.int 0, .ref ot]) ⟨hx, hb, hml, hown, hts⟩ (kX5_isX l g cI cJ cZ s.heap.size hlt ra0 fa fb oa wv h0) (cwV 1 hts gL_is_X5_is rfl rfl rfl (by decide +kernel) ⟨Nat.le_of_ble_eq_true rfl, Nat.le_of_ble_eq_true rfl⟩) (pve_ hev hS hFc hK hPc hDc (va_recv hK hPc (ci := 5) (q0 := 0) rfl rfl)) rfl rfl hl.1 rfl (lv_room (Nat.le_of_ble_eq_true rfl)) dL_is_4 ⟨by show 0 + 1 ≤ 1; omega, by show 0 + 6 ≤ 6; omega⟩) hS (fun q _ h => hFc q h) hFc (fun q _ h => hFc q h) (fun E ce q9 u t H1 locs ht hvm _ hBX hz1 hk1 hS hce hcv hcl => ?_) (fun r1 u t H1 locs ht hvm hw hB hz1 hk1 hS => ?_)
  · obtain ⟨hE, hP1, hK1, hD1⟩ := hBX
    rw [ht] at hP1
    obtain ⟨hP, hD⟩ := va_join (wr := [(ot, .inl (cJ, 1, .inr (.inl ou)))]) (w1 := [(ra0, .inr (5, sr_ fa fb oa))]) hP hD [0] [1] rfl rfl (by decide) (by decide) hk1 hFc hP1 hD1
    clear hPc hDc hFc hP1 hD1 hK1 hk1 hz1 hvm ht
    generalize H1 = H at hP hS hce ⊢
    have hP : va_P g vwCl [(ot, .inl (cJ, 1, .inr (.inl ou))), (ra0, .inr (5, sr_ fa fb oa))] H := hP
    have hD : va_D A [(ot, .inl (cJ, 1, .inr (.inl ou))), (ra0, .inr (5, sr_ fa fb oa))] := hD
    obtain rfl := hE
    refine vx_catch hown [] ⟨0, 16, 19, 13⟩ [] hT (fun z hz => absurd hz (by simp)) rfl (by decide) (hts (.classLink RL 13 "java/lang/IndexOutOfBoundsException") (List.mem_of_getElem? (i := 1) rfl)) (va_Nw.use rfl (hev.1.1 _ (List.mem_of_getElem? (i := 0) rfl))) hce hcv hcl ?_
    show W p l e _ s m _ below meth c H locs (0 + 1) (0 + 6) _ (F0 m 19 ls [.ref q9])
    refine lv_astore_n (lv' := [(3, .ref q9), (0, .ref ra0), (1, .int wv), (2, .ref ot)]) hx hb dL_is_19 rfl hl (by decide) rfl (fun ls hl => ?_)
    refine lv_iconst (v := 1) hx hb dL_is_20 (by decide) ?_
    refine W.widen (k := 1) (n := 6) (by omega) (by omega) ?_
    have hP9 := hP.sub (ws' := [(ra0, .inr (5, sr_ fa fb oa)), (ot, .inl (cJ, 1, .inr (.inl ou)))]) [1, 0] rfl
    have hD9 := hD.sub (ws' := [(ra0, .inr (5, sr_ fa fb oa)), (ot, .inl (cJ, 1, .inr (.inl ou)))]) [1, 0] (by decide) rfl
    exact W.iret (v := 1) hx hb hr (fun t ht hW => ⟨⟨1, (), rfl, rfl, by rw [ht]; exact hP9, va_K.moved hW.alike hK, hD9⟩, hS.F ht⟩) hS.2.2 dL_is_21
  · obtain ⟨hP1, hK1, hD1⟩ := hB
    rw [ht] at hP1
    obtain ⟨hP, hD⟩ := va_join (wr := [(ot, .inl (cJ, 1, .inr (.inl ou)))]) (w1 := [(ra0, .inr (5, sr_ fa fb oa))]) hP hD [0] [1] rfl rfl (by decide) (by decide) hk1 hFc hP1 hD1
    clear hPc hDc hFc hP1 hD1 hK1 hk1 hz1 hvm ht
    generalize H1 = H at hP hS ⊢
    have hP : va_P g vwCl [(ot, .inl (cJ, 1, .inr (.inl ou))), (ra0, .inr (5, sr_ fa fb oa))] H := hP
    have hD : va_D A [(ot, .inl (cJ, 1, .inr (.inl ou))), (ra0, .inr (5, sr_ fa fb oa))] := hD
    exact hw.elim
end
