section
set_option maxHeartbeats 1000000 in
set_option maxRecDepth 100000 in
theorem kJ13_compare_74951 (l : Launch) (g : va_G) (cI cJ cZ : ClassId) (sz : Nat) (a : Int64) (b : Int64)  : Met l yJ13_compare_74951 wsJ13_compare_74951 ({ frames := 0, cells := 0, slots := 0, locals := 0 }) (pc_ g cI cJ cZ [.long a, .long b] [] sz) (va_Qi (fun (r : Int32) (_ : Unit) => r = cmp_ a b) (fun (_ : Unit) t => wd_ g cI cJ cZ (va_A [] sz) [] t) (va_A [] sz)) (0) (0) (va_A [] sz) := by
  refine Met.ofW (cc := cJ13_compare_74951) (maxL := 4) (ret := (some .int)) (by decide) rfl ?_
  intro p e s m args below meth c s₁ B hml hv
  obtain ⟨rfl, hsz, hP, hK, hD0⟩ := hv
  have hx := B.exec
  have hb := B.bytes
  have hr := B.returns
  have hts := atoms_spec (ws := wsJ13_compare_74951) B.pre
  have hown : s.vm.findClass RJ13 = some m.cls := findClass_of_methodNamed B.named
  have hlocks := B.notSynchronized
  subst hsz
  have hD := hD0.self (sz := s.heap.size)
  generalize hAe : va_A [] s.heap.size = A at hD ⊢
  have hA : ∀ q : Nat, s.heap.size ≤ q → A q := fun q h => by rw [← hAe]; exact Or.inr h
  have hS : va_S A s.heap s.heap [] := va_S.rf
  have hP : va_P g vwCl [] s.heap := hP
  have hl := lv_entry ([.long a, .long b]) (n := 4) (Nat.le_of_ble_eq_true rfl)
  rw [lg_entry_eq]
  generalize (lg_sl ([.long a, .long b]) ++ List.replicate (4 - (lg_sl ([.long a, .long b])).length) Slot.unset).toArray = ls at hl ⊢
  have hl : lv_has ls 4 [(0, .long a), (2, .long b)] := hl
  have hH0 : s.heap = s.heap := rfl
  refine lv_lload_n hx hb dJ13_compare_74951_0 rfl (lv_at hl 0 rfl) ?_
  refine lv_lload_n hx hb dJ13_compare_74951_1 rfl (lv_at hl 1 rfl) ?_
  refine W.lcmp hx hb dJ13_compare_74951_2 ?_
  refine lv_if_ge (tgt := 10) hx hb dJ13_compare_74951_3 (by decide) (fun h1 => ?_) (fun h1 => ?_)
  · refine lv_lload_n hx hb dJ13_compare_74951_10 rfl (lv_at hl 0 rfl) ?_
    refine lv_lload_n hx hb dJ13_compare_74951_11 rfl (lv_at hl 1 rfl) ?_
    refine W.lcmp hx hb dJ13_compare_74951_12 ?_
    refine lv_if_ne (tgt := 20) hx hb dJ13_compare_74951_13 (by decide) (fun h2 => ?_) (fun h2 => ?_)
    · refine lv_iconst (v := 1) hx hb dJ13_compare_74951_20 (by decide) ?_
      have hP9 := hP.sub (ws' := []) [] rfl
      have hD9 := hD.sub (ws' := []) [] (by decide) rfl
      exact W.iret (v := 1) hx hb hr (fun t ht hW => ⟨⟨1, (), rfl, cmp1_ h1 h2, by rw [ht]; exact hP9, va_K.moved hW.alike hK, hD9⟩, hS.F ht⟩) hS.2.2 dJ13_compare_74951_21
    · refine lv_iconst (v := 0) hx hb dJ13_compare_74951_16 (by decide) ?_
      refine lv_goto (tgt := 21) hx hb dJ13_compare_74951_17 (by decide) ?_
      have hP9 := hP.sub (ws' := []) [] rfl
      have hD9 := hD.sub (ws' := []) [] (by decide) rfl
      exact W.iret (v := 0) hx hb hr (fun t ht hW => ⟨⟨0, (), rfl, cmp2_ h1 h2, by rw [ht]; exact hP9, va_K.moved hW.alike hK, hD9⟩, hS.F ht⟩) hS.2.2 dJ13_compare_74951_21
  · refine lv_iconst (v := (-1)) hx hb dJ13_compare_74951_6 (by decide) ?_
    refine lv_goto (tgt := 21) hx hb dJ13_compare_74951_7 (by decide) ?_
    have hP9 := hP.sub (ws' := []) [] rfl
    have hD9 := hD.sub (ws' := []) [] (by decide) rfl
    exact W.iret (v := (-1)) hx hb hr (fun t ht hW => ⟨⟨(-1), (), rfl, cmp3_ h1, by rw [ht]; exact hP9, va_K.moved hW.alike hK, hD9⟩, hS.F ht⟩) hS.2.2 dJ13_compare_74951_21

set_option maxHeartbeats 1000000 in
set_option maxRecDepth 100000 in
theorem kJ7_copyOf_59c91 (l : Launch) (g : va_G) (cI cJ cZ : ClassId) (sz : Nat) (h : Nat) (n : Nat) (f : Nat → Int32) (k : Nat) (hk : n < k) (hk2 : k < 1000000) : Met l yJ7_copyOf_59c91 wsJ7_copyOf_59c91 ({ frames := 1, cells := 1, slots := k, locals := 60 }) (pc_ g cI cJ cZ [.ref h, .int (nI k)] [(h, .inl (cI, n, .inl f))] sz) (va_Qr (fun (_ : Unit) => True) (fun (_ : Unit) (ra : Nat) t => wd_ g cI cJ cZ (va_A [(h, .inl (cI, n, .inl f))] sz) [(h, .inl (cI, n, .inl f)), (ra, .inl (cI, k, .inl (va_cpy f (fun _ => 0) 0 0 n)))] t) (va_A [(h, .inl (cI, n, .inl f))] sz)) (1) (k) (va_A [(h, .inl (cI, n, .inl f))] sz) := by
  refine Met.ofW (cc := cJ7_copyOf_59c91) (maxL := 3) (ret := (some (.array .int))) (by decide) rfl ?_
  intro p e s m args below meth c s₁ B hml hv
  obtain ⟨rfl, hsz, hP, hK, hD0⟩ := hv
  have hx := B.exec
  have hb := B.bytes
  have hr := B.returns
  have hts := atoms_spec (ws := wsJ7_copyOf_59c91) B.pre
  have hown : s.vm.findClass RJ7 = some m.cls := findClass_of_methodNamed B.named
  have hlocks := B.notSynchronized
  subst hsz
  have hD := hD0.self (sz := s.heap.size)
  generalize hAe : va_A [(h, .inl (cI, n, .inl f))] s.heap.size = A at hD ⊢
  have hA : ∀ q : Nat, s.heap.size ≤ q → A q := fun q h => by rw [← hAe]; exact Or.inr h
  have hS : va_S A s.heap s.heap [] := va_S.rf
  have hP : va_P g vwCl [(h, .inl (cI, n, .inl f))] s.heap := hP
  have hl := lv_entry ([.ref h, .int (nI k)]) (n := 3) (Nat.le_of_ble_eq_true rfl)
  rw [lg_entry_eq]
  generalize (lg_sl ([.ref h, .int (nI k)]) ++ List.replicate (3 - (lg_sl ([.ref h, .int (nI k)])).length) Slot.unset).toArray = ls at hl ⊢
  have hl : lv_has ls 3 [(0, .ref h), (1, .int (nI k))] := hl
  have hH0 : s.heap = s.heap := rfl
  refine lv_iload_n hx hb dJ7_copyOf_59c91_0 rfl (lv_at hl 1 rfl) ?_
  refine lv_aload_n hx hb dJ7_copyOf_59c91_1 rfl (lv_at hl 0 rfl) ?_
  refine va_alen (D := g) (v := nI n) hx hb hK hP 0 0 rfl rfl rfl dJ7_copyOf_59c91_2 ?_
  refine lv_icmp_ne (tgt := 14) hx hb dJ7_copyOf_59c91_3 (by decide) (fun h1 => ?_) (fun h1 => ?_)
  · refine lv_iload_n hx hb dJ7_copyOf_59c91_14 rfl (lv_at hl 1 rfl) ?_
    refine nwa_ (D := g) (atype := .int) (N' := k) (a0 := (k, .inl (fun _ => 0))) hx hb (hts (.arrayClass .int) (List.mem_of_getElem? (i := 7) rfl)) rfl hK 0 rfl (fun _ h => h) hP hD hS hA (fun _ => rfl) (nI_pos (by omega)) (nI_clamp (by omega)) (by show k * 4 ≤ 536870912; omega) (by show 0 + 1 ≤ 1; omega) (by show 0 + k ≤ k; omega) dJ7_copyOf_59c91_15 (fun q_1 H hP hD hS => ?_)
    have hP : va_P g vwCl [(h, .inl (cI, n, .inl f)), (q_1, .inl (cI, k, .inl (fun _ => 0)))] H := hP
    have hD : va_D A [(h, .inl (cI, n, .inl f)), (q_1, .inl (cI, k, .inl (fun _ => 0)))] := hD
    refine lv_astore_n (lv' := [(2, .ref q_1), (0, .ref h), (1, .int (nI k))]) hx hb dJ7_copyOf_59c91_17 rfl hl (by decide) rfl (fun ls hl => ?_)
    refine lv_aload_n hx hb dJ7_copyOf_59c91_18 rfl (lv_at hl 1 rfl) ?_
    refine lv_iconst (v := 0) hx hb dJ7_copyOf_59c91_19 (by decide) ?_
    refine lv_aload_n hx hb dJ7_copyOf_59c91_20 rfl (lv_at hl 0 rfl) ?_
    refine lv_iconst (v := 0) hx hb dJ7_copyOf_59c91_21 (by decide) ?_
    refine lv_aload_n hx hb dJ7_copyOf_59c91_22 rfl (lv_at hl 1 rfl) ?_
    refine va_alen (D := g) (v := nI n) hx hb hK hP 0 0 rfl rfl rfl dJ7_copyOf_59c91_23 ?_
    refine lv_iload_n hx hb dJ7_copyOf_59c91_24 rfl (lv_at hl 2 rfl) ?_
    refine va_mmin hx hb (hml.trans hl.1.symm) hown (hts (.methodLink RJ7 304 Lib.Math.min.name) (List.mem_of_getElem? (i := 8) rfl)) (hts (.static Lib.Math.min.name) (List.mem_of_getElem? (i := 9) rfl)) (hts (.initialized "java/lang/Math") (List.mem_of_getElem? (i := 10) rfl)) (hts (.code Lib.Math.min.name Lib.Math.min.code 2 (some .int)) (List.mem_of_getElem? (i := 11) rfl)) (Nat.le_of_ble_eq_true rfl) (Nat.le_of_ble_eq_true rfl) (by show 0 + 1 ≤ 1; omega) (by show 0 + k ≤ k; omega) dJ7_copyOf_59c91_25 ?_
    refine tpi_ (y := (nI n)) (by rw [if_neg (nI_nlt (by omega) (by omega))]) ?_
    refine va_copyi (D := g) hx hb (hml.trans hl.1.symm) hown (hts (.methodLink RJ7 150 arraycopyName) (List.mem_of_getElem? (i := 12) rfl)) (hts (.native arraycopyName) (List.mem_of_getElem? (i := 13) rfl)) (hts (.static arraycopyName) (List.mem_of_getElem? (i := 14) rfl)) (hts (.initialized "java/lang/System") (List.mem_of_getElem? (i := 15) rfl)) hK hP hD hS 0 1 0 0 rfl rfl rfl rfl rfl (by decide) (by decide) (nI_pos (by omega)) (by rw [nI_clamp (by omega)]; show 0 + n ≤ n; omega) (by rw [nI_clamp (by omega)]; show 0 + n ≤ k; omega) (fun _ _ => rfl) (Nat.le_of_ble_eq_true rfl) (Nat.le_of_ble_eq_true rfl) dJ7_copyOf_59c91_28 (fun H locs hP hD hS => ?_)
    rw [nI_clamp (show n < 2 ^ 31 by omega)] at hP hD
    have hP : va_P g vwCl [(h, .inl (cI, n, .inl f)), (q_1, .inl (cI, k, .inl (va_cpy f (fun _ => 0) 0 0 n)))] H := hP
    have hD : va_D A [(h, .inl (cI, n, .inl f)), (q_1, .inl (cI, k, .inl (va_cpy f (fun _ => 0) 0 0 n)))] := hD
    refine lv_aload_n hx hb dJ7_copyOf_59c91_31 rfl (lv_at hl 0 rfl) ?_
    refine W.widen (k := 1) (n := k) (by omega) (by omega) ?_
    have hP9 := hP.sub (ws' := [(h, .inl (cI, n, .inl f)), (q_1, .inl (cI, k, .inl (va_cpy f (fun _ => 0) 0 0 n)))]) [0, 1] rfl
    have hD9 := hD.sub (ws' := [(h, .inl (cI, n, .inl f)), (q_1, .inl (cI, k, .inl (va_cpy f (fun _ => 0) 0 0 n)))]) [0, 1] (by decide) rfl
    exact W.aret (v := .ref q_1) hx hb hr (Or.inr ⟨_, rfl⟩) (Or.inr ⟨_, rfl⟩) (fun t ht hW => ⟨⟨(), q_1, rfl, trivial, by rw [ht]; exact hP9, va_K.moved hW.alike hK, hD9⟩, hS.F ht⟩) hS.2.2 dJ7_copyOf_59c91_32
  · exact absurd ((nI_eq (by omega) (by omega)).mp h1) (by omega)

set_option maxHeartbeats 1000000 in
set_option maxRecDepth 100000 in
theorem kJ7_copyOf_c38d5 (l : Launch) (g : va_G) (cI cJ cZ : ClassId) (sz : Nat) (h : Nat) (n : Nat) (f : Nat → Int64) (k : Nat) (hk : n < k) (hk2 : k < 1000000) : Met l yJ7_copyOf_c38d5 wsJ7_copyOf_c38d5 ({ frames := 1, cells := 1, slots := k, locals := 60 }) (pc_ g cI cJ cZ [.ref h, .int (nI k)] [(h, .inl (cJ, n, .inr (.inl f)))] sz) (va_Qr (fun (_ : Unit) => True) (fun (_ : Unit) (ra : Nat) t => wd_ g cI cJ cZ (va_A [(h, .inl (cJ, n, .inr (.inl f)))] sz) [(h, .inl (cJ, n, .inr (.inl f))), (ra, .inl (cJ, k, .inr (.inl (va_cpy f (fun _ => 0) 0 0 n))))] t) (va_A [(h, .inl (cJ, n, .inr (.inl f)))] sz)) (1) (k) (va_A [(h, .inl (cJ, n, .inr (.inl f)))] sz) := by
  refine Met.ofW (cc := cJ7_copyOf_c38d5) (maxL := 3) (ret := (some (.array .long))) (by decide) rfl ?_
  intro p e s m args below meth c s₁ B hml hv
  obtain ⟨rfl, hsz, hP, hK, hD0⟩ := hv
  have hx := B.exec
  have hb := B.bytes
  have hr := B.returns
  have hts := atoms_spec (ws := wsJ7_copyOf_c38d5) B.pre
  have hown : s.vm.findClass RJ7 = some m.cls := findClass_of_methodNamed B.named
  have hlocks := B.notSynchronized
  subst hsz
  have hD := hD0.self (sz := s.heap.size)
  generalize hAe : va_A [(h, .inl (cJ, n, .inr (.inl f)))] s.heap.size = A at hD ⊢
  have hA : ∀ q : Nat, s.heap.size ≤ q → A q := fun q h => by rw [← hAe]; exact Or.inr h
  have hS : va_S A s.heap s.heap [] := va_S.rf
  have hP : va_P g vwCl [(h, .inl (cJ, n, .inr (.inl f)))] s.heap := hP
  have hl := lv_entry ([.ref h, .int (nI k)]) (n := 3) (Nat.le_of_ble_eq_true rfl)
  rw [lg_entry_eq]
  generalize (lg_sl ([.ref h, .int (nI k)]) ++ List.replicate (3 - (lg_sl ([.ref h, .int (nI k)])).length) Slot.unset).toArray = ls at hl ⊢
  have hl : lv_has ls 3 [(0, .ref h), (1, .int (nI k))] := hl
  have hH0 : s.heap = s.heap := rfl
  refine lv_iload_n hx hb dJ7_copyOf_c38d5_0 rfl (lv_at hl 1 rfl) ?_
  refine lv_aload_n hx hb dJ7_copyOf_c38d5_1 rfl (lv_at hl 0 rfl) ?_
  refine va_alen (D := g) (v := nI n) hx hb hK hP 0 1 rfl rfl rfl dJ7_copyOf_c38d5_2 ?_
  refine lv_icmp_ne (tgt := 14) hx hb dJ7_copyOf_c38d5_3 (by decide) (fun h1 => ?_) (fun h1 => ?_)
  · refine lv_iload_n hx hb dJ7_copyOf_c38d5_14 rfl (lv_at hl 1 rfl) ?_
    refine nwa_ (D := g) (atype := .long) (N' := k) (a0 := (k, .inr (.inl (fun _ => 0)))) hx hb (hts (.arrayClass .long) (List.mem_of_getElem? (i := 7) rfl)) rfl hK 1 rfl (fun _ h => h) hP hD hS hA (fun _ => rfl) (nI_pos (by omega)) (nI_clamp (by omega)) (by show k * 8 ≤ 536870912; omega) (by show 0 + 1 ≤ 1; omega) (by show 0 + k ≤ k; omega) dJ7_copyOf_c38d5_15 (fun q_1 H hP hD hS => ?_)
    have hP : va_P g vwCl [(h, .inl (cJ, n, .inr (.inl f))), (q_1, .inl (cJ, k, .inr (.inl (fun _ => 0))))] H := hP
    have hD : va_D A [(h, .inl (cJ, n, .inr (.inl f))), (q_1, .inl (cJ, k, .inr (.inl (fun _ => 0))))] := hD
    refine lv_astore_n (lv' := [(2, .ref q_1), (0, .ref h), (1, .int (nI k))]) hx hb dJ7_copyOf_c38d5_17 rfl hl (by decide) rfl (fun ls hl => ?_)
    refine lv_aload_n hx hb dJ7_copyOf_c38d5_18 rfl (lv_at hl 1 rfl) ?_
    refine lv_iconst (v := 0) hx hb dJ7_copyOf_c38d5_19 (by decide) ?_
    refine lv_aload_n hx hb dJ7_copyOf_c38d5_20 rfl (lv_at hl 0 rfl) ?_
    refine lv_iconst (v := 0) hx hb dJ7_copyOf_c38d5_21 (by decide) ?_
    refine lv_aload_n hx hb dJ7_copyOf_c38d5_22 rfl (lv_at hl 1 rfl) ?_
    refine va_alen (D := g) (v := nI n) hx hb hK hP 0 1 rfl rfl rfl dJ7_copyOf_c38d5_23 ?_
    refine lv_iload_n hx hb dJ7_copyOf_c38d5_24 rfl (lv_at hl 2 rfl) ?_
    refine va_mmin hx hb (hml.trans hl.1.symm) hown (hts (.methodLink RJ7 304 Lib.Math.min.name) (List.mem_of_getElem? (i := 8) rfl)) (hts (.static Lib.Math.min.name) (List.mem_of_getElem? (i := 9) rfl)) (hts (.initialized "java/lang/Math") (List.mem_of_getElem? (i := 10) rfl)) (hts (.code Lib.Math.min.name Lib.Math.min.code 2 (some .int)) (List.mem_of_getElem? (i := 11) rfl)) (Nat.le_of_ble_eq_true rfl) (Nat.le_of_ble_eq_true rfl) (by show 0 + 1 ≤ 1; omega) (by show 0 + k ≤ k; omega) dJ7_copyOf_c38d5_25 ?_
    refine tpi_ (y := (nI n)) (by rw [if_neg (nI_nlt (by omega) (by omega))]) ?_
    refine va_copyl (D := g) hx hb (hml.trans hl.1.symm) hown (hts (.methodLink RJ7 150 arraycopyName) (List.mem_of_getElem? (i := 12) rfl)) (hts (.native arraycopyName) (List.mem_of_getElem? (i := 13) rfl)) (hts (.static arraycopyName) (List.mem_of_getElem? (i := 14) rfl)) (hts (.initialized "java/lang/System") (List.mem_of_getElem? (i := 15) rfl)) hK hP hD hS 0 1 1 1 rfl rfl rfl rfl rfl (by decide) (by decide) (nI_pos (by omega)) (by rw [nI_clamp (by omega)]; show 0 + n ≤ n; omega) (by rw [nI_clamp (by omega)]; show 0 + n ≤ k; omega) (fun _ _ => rfl) (Nat.le_of_ble_eq_true rfl) (Nat.le_of_ble_eq_true rfl) dJ7_copyOf_c38d5_28 (fun H locs hP hD hS => ?_)
    rw [nI_clamp (show n < 2 ^ 31 by omega)] at hP hD
    have hP : va_P g vwCl [(h, .inl (cJ, n, .inr (.inl f))), (q_1, .inl (cJ, k, .inr (.inl (va_cpy f (fun _ => 0) 0 0 n))))] H := hP
    have hD : va_D A [(h, .inl (cJ, n, .inr (.inl f))), (q_1, .inl (cJ, k, .inr (.inl (va_cpy f (fun _ => 0) 0 0 n))))] := hD
    refine lv_aload_n hx hb dJ7_copyOf_c38d5_31 rfl (lv_at hl 0 rfl) ?_
    refine W.widen (k := 1) (n := k) (by omega) (by omega) ?_
    have hP9 := hP.sub (ws' := [(h, .inl (cJ, n, .inr (.inl f))), (q_1, .inl (cJ, k, .inr (.inl (va_cpy f (fun _ => 0) 0 0 n))))]) [0, 1] rfl
    have hD9 := hD.sub (ws' := [(h, .inl (cJ, n, .inr (.inl f))), (q_1, .inl (cJ, k, .inr (.inl (va_cpy f (fun _ => 0) 0 0 n))))]) [0, 1] (by decide) rfl
    exact W.aret (v := .ref q_1) hx hb hr (Or.inr ⟨_, rfl⟩) (Or.inr ⟨_, rfl⟩) (fun t ht hW => ⟨⟨(), q_1, rfl, trivial, by rw [ht]; exact hP9, va_K.moved hW.alike hK, hD9⟩, hS.F ht⟩) hS.2.2 dJ7_copyOf_c38d5_32
  · exact absurd ((nI_eq (by omega) (by omega)).mp h1) (by omega)

set_option maxHeartbeats 1000000 in
set_option maxRecDepth 100000 in
theorem kJ7_fill_53178 (l : Launch) (g : va_G) (cI cJ cZ : ClassId) (sz : Nat) (h : Nat) (n : Nat) (f : Nat → Int32) (v : Int32) (hn : n < 1000000) : Met l yJ7_fill_53178 wsJ7_fill_53178 ({ frames := 0, cells := 0, slots := 0, locals := 0 }) (pc_ g cI cJ cZ [.ref h, .int v] [(h, .inl (cI, n, .inl f))] sz) (va_Qv (fun (_ : Unit) => True) (fun (_ : Unit) t => wd_ g cI cJ cZ (va_A [(h, .inl (cI, n, .inl f))] sz) [(h, .inl (cI, n, .inl (fil_ f v n)))] t) (va_A [(h, .inl (cI, n, .inl f))] sz)) (0) (0) (va_A [(h, .inl (cI, n, .inl f))] sz) := by
  refine Met.ofW (cc := cJ7_fill_53178) (maxL := 4) (ret := none) (by decide) rfl ?_
  intro p e s m args below meth c s₁ B hml hv
  obtain ⟨rfl, hsz, hP, hK, hD0⟩ := hv
  have hx := B.exec
  have hb := B.bytes
  have hr := B.returns
  have hts := atoms_spec (ws := wsJ7_fill_53178) B.pre
  have hown : s.vm.findClass RJ7 = some m.cls := findClass_of_methodNamed B.named
  have hlocks := B.notSynchronized
  subst hsz
  have hD := hD0.self (sz := s.heap.size)
  generalize hAe : va_A [(h, .inl (cI, n, .inl f))] s.heap.size = A at hD ⊢
  have hA : ∀ q : Nat, s.heap.size ≤ q → A q := fun q h => by rw [← hAe]; exact Or.inr h
  have hS : va_S A s.heap s.heap [] := va_S.rf
  have hP : va_P g vwCl [(h, .inl (cI, n, .inl f))] s.heap := hP
  have hl := lv_entry ([.ref h, .int v]) (n := 4) (Nat.le_of_ble_eq_true rfl)
  rw [lg_entry_eq]
  generalize (lg_sl ([.ref h, .int v]) ++ List.replicate (4 - (lg_sl ([.ref h, .int v])).length) Slot.unset).toArray = ls at hl ⊢
  have hl : lv_has ls 4 [(0, .ref h), (1, .int v)] := hl
  have hH0 : s.heap = s.heap := rfl
  refine lv_iconst (v := 0) hx hb dJ7_fill_53178_0 (by decide) ?_
  refine lv_istore_n (lv' := [(2, .int 0), (0, .ref h), (1, .int v)]) hx hb dJ7_fill_53178_1 rfl hl (by decide) rfl (fun ls hl => ?_)
  refine lv_aload_n hx hb dJ7_fill_53178_2 rfl (lv_at hl 1 rfl) ?_
  refine va_alen (D := g) (v := nI n) hx hb hK hP 0 0 rfl rfl rfl dJ7_fill_53178_3 ?_
  refine lv_istore_n (lv' := [(3, .int (nI n)), (2, .int 0), (0, .ref h), (1, .int v)]) hx hb dJ7_fill_53178_4 rfl hl (by decide) rfl (fun ls hl => ?_)
  refine lpW (σ := Nat) (fun i => n - i) (fun i => 0) (fun i => 0) (fun i H locs ls => (i ≤ n) ∧ va_P g vwCl [(h, .inl (cI, n, .inl (fil_ f v i)))] H ∧ va_D A [(h, .inl (cI, n, .inl (fil_ f v i)))] ∧ va_S A s.heap H locs ∧ lv_has ls 4 [(3, .int (nI n)), (2, .int (nI i)), (0, .ref h), (1, .int v)]) (fun x ih H locs ls hI => ?_) 0 rfl rfl ⟨Nat.zero_le _, hP, hD, hS, (lv_sub hl [0, 1, 2, 3] rfl)⟩
  obtain ⟨i, rfl⟩ : ∃ z, z = x := ⟨_, rfl⟩
  obtain ⟨hi, hP, hD, hS, hl⟩ := hI
  have hP : va_P g vwCl [(h, .inl (cI, n, .inl (fil_ f v i)))] H := hP
  have hD : va_D A [(h, .inl (cI, n, .inl (fil_ f v i)))] := hD
  have hl : lv_has ls 4 [(3, .int (nI n)), (2, .int (nI i)), (0, .ref h), (1, .int v)] := hl
  refine lv_iload_n hx hb dJ7_fill_53178_5 rfl (lv_at hl 1 rfl) ?_
  refine lv_iload_n hx hb dJ7_fill_53178_6 rfl (lv_at hl 0 rfl) ?_
  refine lv_icmp_ge (tgt := 20) hx hb dJ7_fill_53178_7 (by decide) (fun h1 => ?_) (fun h1 => ?_)
  · have hi2 : i = n := Nat.le_antisymm hi (i_ge h1 (by omega) (by omega))
    rw [hi2] at hP hD
    have hP : va_P g vwCl [(h, .inl (cI, n, .inl (fil_ f v n)))] H := hP
    have hD : va_D A [(h, .inl (cI, n, .inl (fil_ f v n)))] := hD
    have hP9 := hP.sub (ws' := [(h, .inl (cI, n, .inl (fil_ f v n)))]) [0] rfl
    have hD9 := hD.sub (ws' := [(h, .inl (cI, n, .inl (fil_ f v n)))]) [0] (by decide) rfl
    exact W.vret hx hb hr (fun t ht hW => ⟨⟨(), rfl, trivial, by rw [ht]; exact hP9, va_K.moved hW.alike hK, hD9⟩, hS.F ht⟩) hS.2.2 dJ7_fill_53178_20
  · have hi2 : i < n := i_nge h1 (by omega) (by omega)
    refine lv_aload_n hx hb dJ7_fill_53178_10 rfl (lv_at hl 2 rfl) ?_
    refine lv_iload_n hx hb dJ7_fill_53178_11 rfl (lv_at hl 1 rfl) ?_
    refine lv_iload_n hx hb dJ7_fill_53178_12 rfl (lv_at hl 3 rfl) ?_
    refine va_iast (D := g) hx hb hK hP hD hS 0 0 rfl rfl (vp_in_nI hi2 (by omega)) dJ7_fill_53178_13 (fun H locs hP hD hS => ?_)
    have hP : va_P g vwCl [(h, .inl (cI, n, .inl (upd (fil_ f v i) (nI i).toNatClampNeg v)))] H := hP
    have hD : va_D A [(h, .inl (cI, n, .inl (upd (fil_ f v i) (nI i).toNatClampNeg v)))] := hD
    rw [nI_clamp (show i < 2 ^ 31 by omega), fil_s] at hP hD
    have hP : va_P g vwCl [(h, .inl (cI, n, .inl (fil_ f v (i + 1))))] H := hP
    have hD : va_D A [(h, .inl (cI, n, .inl (fil_ f v (i + 1))))] := hD
    refine lv_iinc (v := (nI (i + 1))) (lv' := [(2, .int (nI (i + 1))), (3, .int (nI n)), (0, .ref h), (1, .int v)]) hx hb dJ7_fill_53178_14 hl (k := 1) rfl (nI_1 i) (by decide) rfl (fun ls hl => ?_)
    refine lv_goto (tgt := 5) hx hb dJ7_fill_53178_17 (by decide) ?_
    exact ih (i + 1) (by show n - (i + 1) < n - i; omega) H locs ls ⟨hi2, hP, hD, hS, (lv_sub hl [1, 0, 2, 3] rfl)⟩
end
