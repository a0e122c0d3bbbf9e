/-! each call keeps what holds between two calls -/
/-- the other shape -/
def ot_ (t : Nat) : Nat := 1 - t
section
variable {n : Nat} {kn pt pa bg xs ys : Nat → Int32} {PT PA : Nat → Nat} {SN : Nat → Nat → Nat} {t : Nat}
variable {kd1 pr1 sc1 mn1 : Int32} {cx1 cp1 ct1 : Nat} {xs1 ys1 st1 ta1 he1 ma1 : Nat → Int32} {kd2 pr2 sc2 mn2 : Int32} {cx2 cp2 ct2 : Nat} {xs2 ys2 st2 ta2 he2 ma2 : Nat → Int32}
variable {fr : Int32} {mx : Nat → Int32}
theorem wi_sh (ht : t < 2) : ¬ wi_ (nI t) 0 1 = 0 := wi_s ht
theorem sp_shape (ht : t < 2) (hn : n < 512) (hr : RI_ n kn pt pa bg xs ys PT PA SN) (hF : FI_ t kn xs ys PT PA SN kd1 pr1 sc1 mn1 cx1 cp1 ct1 xs1 ys1 st1 ta1 he1 ma1) (hG : FI_ (ot_ t) kn xs ys PT PA SN kd2 pr2 sc2 mn2 cx2 cp2 ct2 xs2 ys2 st2 ta2 he2 ma2) (hM : MI_ fr mx kn xs ys SN PA PT)
    {kv r1 r2 th9 kd9 pn9 pt9 pr9 fr9 : Int32} {ou9 : Nat → Int64} {kn9 ptt9 pa9 : Nat → Int32}
    (hw : (¬ wi_ kv 1 3 = 0 → r1 = 0 ∧ kd9 = kv ∧ pn9 = 0 ∧ pt9 = 0 ∧ pr9 = 0 ∧ fr9 = 0 ∧ ou9 0 = (nI (PT t)).toInt64) ∧ (wi_ kv 1 3 = 0 → r1 = 2 ∧ kd9 = kd1 ∧ pn9 = nI (PA t) ∧ pt9 = nI (PT t) ∧ pr9 = pr1 ∧ fr9 = fr))
    (hw2 : shp_ (nI t) kv kn pt pa r2 th9 kn9 ptt9 pa9) :
    ∃ PT' PA' : Nat → Nat, pn9 = nI (PA' t) ∧ pt9 = nI (PT' t) ∧ PA' (ot_ t) = PA (ot_ t) ∧ PT' (ot_ t) = PT (ot_ t) ∧ th9 = r1 ∧ (r1 = 0 → ou9 0 = r2.toInt64) ∧ RI_ (n + 1) kn9 ptt9 pa9 bg xs ys PT' PA' SN ∧ FI_ t kn9 xs ys PT' PA' SN kd9 pr9 sc1 mn1 cx1 cp1 ct1 xs1 ys1 st1 ta1 he1 ma1 ∧ FI_ (ot_ t) kn9 xs ys PT' PA' SN kd2 pr2 sc2 mn2 cx2 cp2 ct2 xs2 ys2 st2 ta2 he2 ma2 ∧ MI_ fr9 mx kn9 xs ys SN PA' PT' := by
  have no : ¬ ot_ t = t := by unfold ot_; omega
  have lo : ot_ t < 2 := by unfold ot_; omega
  by_cases hk : wi_ kv 1 3 = 0
  · obtain ⟨a1, a2, a3, a4, a5, a6⟩ := hw.2 hk
    obtain ⟨b1, b2, b3, b4⟩ := hw2.2.1 (wi_sh ht) hk
    subst b2; subst b3; subst b4; subst a2; subst a5; subst a6
    exact ⟨PT, PA, a3, a4, rfl, rfl, by rw [b1, a1], fun z => absurd (a1.symm.trans z) (by decide), RI_n hr hn, hF, hG, hM⟩
  · obtain ⟨a1, a2, a3, a4, a5, a6, a7⟩ := hw.1 hk
    obtain ⟨b1, b5, b2, b3, b4⟩ := hw2.2.2 t ht rfl hk
    subst b2; subst b3; subst b4; subst a2; subst a5; subst a6
    have l := hr.2.2.1 (ot_ t) lo
    refine ⟨uN_ PT t 0, uN_ PA t 0, by rw [uN_s]; exact a3, by rw [uN_s]; exact a4, uN_n no, uN_n no, by rw [b1, a1], fun _ => ?_, RI_sh hr hn ht hk, FI_sh ht hF, ?_, Or.inl rfl⟩
    · rw [a7, b5, (hr.1 t ht).1]
    · exact FI_o hG (pk_un no) (uN_n no) (uN_n no) rfl (fun i hi => ⟨rfl, rfl⟩)
theorem sp_part (ht : t < 2) (hn : n < 512) (hr : RI_ n kn pt pa bg xs ys PT PA SN) (hF : FI_ t kn xs ys PT PA SN kd1 pr1 sc1 mn1 cx1 cp1 ct1 xs1 ys1 st1 ta1 he1 ma1) (hG : FI_ (ot_ t) kn xs ys PT PA SN kd2 pr2 sc2 mn2 cx2 cp2 ct2 xs2 ys2 st2 ta2 he2 ma2) (hM : MI_ fr mx kn xs ys SN PA PT)
    {r1 r2 th9 : Int32} {ou9 : Nat → Int64} {st9 pa9 bg9 : Nat → Int32} (hw : r1 = 0 ∧ (∀ i, i < PA t → st9 i = st1 i) ∧ st9 (PA t) = nI (PT t) ∧ ou9 0 = (nI (PA t + 1)).toInt64) (hw2 : prt_ (nI t) PT PA pa bg r2 th9 pa9 bg9) :
    ∃ (PA' : Nat → Nat) (SN' : Nat → Nat → Nat), nI (PA t + 1) = nI (PA' t) ∧ PA' (ot_ t) = PA (ot_ t) ∧ th9 = r1 ∧ (r1 = 0 → ou9 0 = r2.toInt64) ∧ RI_ (n + 1) kn pt pa9 bg9 xs ys PT PA' SN' ∧ FI_ t kn xs ys PT PA' SN' kd1 0 sc1 mn1 cx1 (gcap_ (PA t) cp1) ct1 xs1 ys1 st9 ta1 he1 ma1 ∧ FI_ (ot_ t) kn xs ys PT PA' SN' kd2 pr2 sc2 mn2 cx2 cp2 ct2 xs2 ys2 st2 ta2 he2 ma2 ∧ MI_ fr mx kn xs ys SN' PA' PT := by
  have no : ¬ ot_ t = t := by unfold ot_; omega
  have lo : ot_ t < 2 := by unfold ot_; omega
  have l := hr.2.2.1 t ht
  obtain ⟨b1, b2, b3, b4⟩ := (hw2.2 t ht rfl).2 (by omega)
  subst b3; subst b4
  refine ⟨uN_ PA t (PA t + 1), uS_ SN t (PA t) (PT t), by rw [uN_s], uN_n no, by rw [b1, hw.1], fun _ => by rw [hw.2.2.2, b2], RI_pa hr hn ht, FI_pa hr hn ht hF hw.2.1 hw.2.2.1, ?_, MI_p ht hM⟩
  exact FI_o hG rfl rfl (uN_n no) (uS_n no) (fun i hi => ⟨rfl, rfl⟩)
theorem far_01 {x : Int32} : far_ x = 0 ∨ ¬ far_ x = 0 := Decidable.em _
theorem sp_point (ht : t < 2) (hn : n < 512) (hr : RI_ n kn pt pa bg xs ys PT PA SN) (hF : FI_ t kn xs ys PT PA SN kd1 pr1 sc1 mn1 cx1 cp1 ct1 xs1 ys1 st1 ta1 he1 ma1) (hG : FI_ (ot_ t) kn xs ys PT PA SN kd2 pr2 sc2 mn2 cx2 cp2 ct2 xs2 ys2 st2 ta2 he2 ma2) (hM : MI_ fr mx kn xs ys SN PA PT)
    {x1 y1 r1 r2 th9 pr9 fr9 : Int32} {k9 cx9 : Nat} {ou9 : Nat → Int64} {xs9 ys9 ptt9 rx9 ry9 : Nat → Int32}
    (hw : ((far_ x1 = 0 ∧ far_ y1 = 0 ∧ ¬ PA t = 0) → r1 = 0 ∧ k9 = PT t + 1 ∧ cx9 = gcap_ (PT t) cx1 ∧ (∀ i, i < PT t → xs9 i = xs1 i ∧ ys9 i = ys1 i) ∧ xs9 (PT t) = x1 ∧ ys9 (PT t) = y1 ∧ pr9 = 0 ∧ fr9 = 0 ∧ ou9 0 = (nI (PT t + 1)).toInt64) ∧ ((¬ far_ x1 = 0 ∨ ¬ far_ y1 = 0) → r1 = 2 ∧ k9 = PT t ∧ cx9 = cx1 ∧ xs9 = xs1 ∧ ys9 = ys1 ∧ pr9 = pr1 ∧ fr9 = fr) ∧ ((far_ x1 = 0 ∧ far_ y1 = 0 ∧ PA t = 0) → r1 = 3 ∧ k9 = PT t ∧ cx9 = cx1 ∧ xs9 = xs1 ∧ ys9 = ys1 ∧ pr9 = pr1 ∧ fr9 = fr))
    (hw2 : pnt_ (nI t) x1 y1 PT PA pt xs ys r2 th9 ptt9 rx9 ry9) :
    ∃ PT' : Nat → Nat, k9 = PT' t ∧ PT' (ot_ t) = PT (ot_ t) ∧ th9 = r1 ∧ (r1 = 0 → ou9 0 = r2.toInt64) ∧ RI_ (n + 1) kn ptt9 pa bg rx9 ry9 PT' PA SN ∧ FI_ t kn rx9 ry9 PT' PA SN kd1 pr9 sc1 mn1 cx9 cp1 ct1 xs9 ys9 st1 ta1 he1 ma1 ∧ FI_ (ot_ t) kn rx9 ry9 PT' PA SN kd2 pr2 sc2 mn2 cx2 cp2 ct2 xs2 ys2 st2 ta2 he2 ma2 ∧ MI_ fr9 mx kn rx9 ry9 SN PA PT' := by
  have no : ¬ ot_ t = t := by unfold ot_; omega
  have lo : ot_ t < 2 := by unfold ot_; omega
  have l := hr.2.2.1 t ht
  by_cases hx : far_ x1 = 0 ∧ far_ y1 = 0
  · by_cases hp : PA t = 0
    · obtain ⟨a1, a2, a3, a4, a5, a6, a7⟩ := hw.2.2 ⟨hx.1, hx.2, hp⟩
      obtain ⟨b1, b2, b3, b4⟩ := (hw2.2.2 t ht rfl hx.1 hx.2).1 (Or.inl hp)
      subst b2; subst b3; subst b4; subst a3; subst a4; subst a5; subst a6; subst a7
      exact ⟨PT, a2, rfl, by rw [b1, a1], fun z => absurd (a1.symm.trans z) (by decide), RI_n hr hn, hF, hG, hM⟩
    · obtain ⟨a1, a2, a3, a4, a5, a6, a7, a8, a9⟩ := hw.1 ⟨hx.1, hx.2, hp⟩
      obtain ⟨b1, b2, b3, b4, b5⟩ := (hw2.2.2 t ht rfl hx.1 hx.2).2 (fun z => z.elim hp (fun q => by omega))
      subst b3; subst b4; subst b5; subst a3; subst a7; subst a8
      refine ⟨uN_ PT t (PT t + 1), by rw [uN_s]; exact a2, uN_n no, by rw [b1, a1], fun _ => by rw [a9, b2], RI_pt hr hn ht hp hx.1 hx.2, FI_pt hr hn ht hF a4 a5 a6, ?_, Or.inl rfl⟩
      have lo2 := hr.2.2.1 (ot_ t) lo
      exact FI_o hG rfl (uN_n no) rfl rfl (fun i hi => ⟨xo_o lo ht no (by omega) (by omega), xo_o lo ht no (by omega) (by omega)⟩)
  · have hx' : ¬ far_ x1 = 0 ∨ ¬ far_ y1 = 0 := by
      rcases Decidable.em (far_ x1 = 0) with q | q
      · exact Or.inr (fun z => hx ⟨q, z⟩)
      · exact Or.inl q
    obtain ⟨a1, a2, a3, a4, a5, a6, a7⟩ := hw.2.1 hx'
    obtain ⟨b1, b2, b3, b4⟩ := hw2.2.1 (wi_sh ht) hx'
    subst b2; subst b3; subst b4; subst a3; subst a4; subst a5; subst a6; subst a7
    exact ⟨PT, a2, rfl, by rw [b1, a1], fun z => absurd (a1.symm.trans z) (by decide), RI_n hr hn, hF, hG, hM⟩
theorem sp_loc (ht : t < 2) (hn : n < 512) (hr : RI_ n kn pt pa bg xs ys PT PA SN) (hF : FI_ t kn xs ys PT PA SN kd1 pr1 sc1 mn1 cx1 cp1 ct1 xs1 ys1 st1 ta1 he1 ma1)
    {x1 y1 r1 r2 th9 pr9 sc9 mn9 : Int32} {ct9 : Nat} {ou9 : Nat → Int64} {ta9 he9 ma9 : Nat → Int32}
    (hw : ((far_ x1 = 0 ∧ far_ y1 = 0) → r1 = 0 ∧ ou9 0 = (whs_ kd1 xs1 ys1 (prS_ kd1 xs1 ys1 (SN t) (PA t) (PT t) (PA t)) (prM_ kd1 xs1 ys1 (SN t) (PA t) (PT t) (PA t)) x1 y1).toInt64) ∧ ((¬ far_ x1 = 0 ∨ ¬ far_ y1 = 0) → r1 = 2) ∧ (ct9 = ct1 ∨ ct9 = cx1) ∧ (pr9 = 0 ∨ (pr9 = 1 ∧ cx1 ≤ ct9 ∧ sc9 = nI (prS_ kd1 xs1 ys1 (SN t) (PA t) (PT t) (PA t)).length ∧ mn9 = nI (prM_ kd1 xs1 ys1 (SN t) (PA t) (PT t) (PA t)).length ∧ sl_ ta9 he9 (prS_ kd1 xs1 ys1 (SN t) (PA t) (PT t) (PA t)) ∧ al_ ma9 (prM_ kd1 xs1 ys1 (SN t) (PA t) (PT t) (PA t)))))
    (hw2 : (wi_ (nI t) 0 1 = 0 → th9 = 1) ∧ (¬ wi_ (nI t) 0 1 = 0 → (¬ far_ x1 = 0 ∨ ¬ far_ y1 = 0) → th9 = 2) ∧ (∀ sh, sh < 2 → nI t = nI sh → far_ x1 = 0 → far_ y1 = 0 → th9 = 0 ∧ r2 = wr_ kn xs ys (gat_ kn xs ys SN PA PT) PA PT SN x1.toInt64 y1.toInt64 0 0 0 1 sh)) :
    th9 = r1 ∧ (r1 = 0 → ou9 0 = r2.toInt64) ∧ RI_ (n + 1) kn pt pa bg xs ys PT PA SN ∧ FI_ t kn xs ys PT PA SN kd1 pr9 sc9 mn9 cx1 cp1 ct9 xs1 ys1 st1 ta9 he9 ma9 := by
  obtain ⟨h1, h2, h3, h4, h5, h6, h7⟩ := id hF
  have F9 : FI_ t kn xs ys PT PA SN kd1 pr9 sc9 mn9 cx1 cp1 ct9 xs1 ys1 st1 ta9 he9 ma9 := ⟨h1, h2, h3, by rcases hw.2.2.1 with z | z <;> omega, h5, h6, hw.2.2.2⟩
  by_cases hx : far_ x1 = 0 ∧ far_ y1 = 0
  · obtain ⟨a1, a2⟩ := hw.1 hx
    obtain ⟨b1, b2⟩ := hw2.2.2 t ht rfl hx.1 hx.2
    exact ⟨by rw [a1, b1], fun _ => by rw [a2, b2, an_loc hr ht hF hx.1 hx.2], RI_n hr hn, F9⟩
  · have hx' : ¬ far_ x1 = 0 ∨ ¬ far_ y1 = 0 := by
      rcases Decidable.em (far_ x1 = 0) with q | q
      · exact Or.inr (fun z => hx ⟨q, z⟩)
      · exact Or.inl q
    have a1 := hw.2.1 hx'
    exact ⟨by rw [a1, hw2.2.1 (wi_sh ht) hx'], fun z => absurd (a1.symm.trans z) (by decide), RI_n hr hn, F9⟩
theorem sp_cnt (ht : t < 2) (hr : RI_ n kn pt pa bg xs ys PT PA SN) (hF : FI_ t kn xs ys PT PA SN kd1 pr1 sc1 mn1 cx1 cp1 ct1 xs1 ys1 st1 ta1 he1 ma1) {wv r1 r2 th9 : Int32} {ou9 : Nat → Int64}
    (hw : (¬ wi_ wv 0 2 = 0 → r1 = 0 ∧ ou9 0 = (if wv = 0 then kd1 else if wv = 1 then nI (PA t) else nI (PT t)).toInt64) ∧ (wi_ wv 0 2 = 0 → r1 = 1))
    (hw2 : ((wi_ (nI t) 0 1 = 0 ∨ wi_ wv 0 2 = 0) → th9 = 1) ∧ (∀ sh, sh < 2 → nI t = nI sh → ¬ wi_ wv 0 2 = 0 → th9 = 0 ∧ r2 = if wv = 0 then kn sh else if wv = 1 then pa sh else pt sh)) : th9 = r1 ∧ (r1 = 0 → ou9 0 = r2.toInt64) := by
  by_cases hk : wi_ wv 0 2 = 0
  · have a1 := hw.2 hk
    exact ⟨by rw [a1, hw2.1 (Or.inr hk)], fun z => absurd (a1.symm.trans z) (by decide)⟩
  · obtain ⟨a1, a2⟩ := hw.1 hk
    obtain ⟨b1, b2⟩ := hw2.2 t ht rfl hk
    have m := hr.1 t ht
    exact ⟨by rw [a1, b1], fun _ => by rw [a2, b2, hF.1, m.1, m.2.1]⟩
end
