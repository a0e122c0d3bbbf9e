/-! the answers: the class's are the reference's -/
section
variable {kn xs ys : Nat → Int32} {PT PA : Nat → Nat} {SN : Nat → Nat → Nat} {t : Nat}
theorem pe_p {sn : Nat → Nat} {P N k : Nat} (h : k < P) : pe_ (uN_ sn P N) (P + 1) N k = pe_ sn P N k := by
  unfold pe_
  rw [if_pos (by omega)]
  by_cases z : k + 1 = P
  · rw [z, uN_s, if_neg (by omega)]
  · rw [uN_n z, if_pos (by omega)]
theorem pe_q {sn : Nat → Nat} {P N : Nat} : pe_ (uN_ sn P N) (P + 1) N P = N := by unfold pe_; rw [if_neg (by omega)]
theorem en_p {f : Nat → Int32} {sn : Nat → Nat} {P N o : Nat} : ∀ k, k ≤ P → en_ f (uN_ sn P N) (P + 1) N o k = en_ f sn P N o k
  | 0, _ => rfl
  | k + 1, h => by rw [en_, en_, en_p k (by omega), pe_p (by omega), uN_n (by omega)]
theorem en_q {f : Nat → Int32} {sn : Nat → Nat} {P N o : Nat} : en_ f (uN_ sn P N) (P + 1) N o (P + 1) = en_ f sn P N o P := by
  rw [en_, en_p P (Nat.le_refl _), pe_q, uN_s, if_neg (Nat.lt_irrefl _), Nat.add_zero]
theorem gsh_p {kd : Int32} {xs ys : Nat → Int32} {sn : Nat → Nat} {P N s : Nat} {L : List (Nat × Nat × Nat)} : ∀ k, k ≤ P → gsh_ kd xs ys (uN_ sn P N) (P + 1) N L s k = gsh_ kd xs ys sn P N L s k
  | 0, _ => rfl
  | k + 1, h => by rw [gsh_, gsh_, gsh_p k (by omega), pe_p (by omega), uN_n (by omega)]
theorem gsh_q {kd : Int32} {xs ys : Nat → Int32} {sn : Nat → Nat} {P N s : Nat} {L : List (Nat × Nat × Nat)} : gsh_ kd xs ys (uN_ sn P N) (P + 1) N L s (P + 1) = gsh_ kd xs ys sn P N L s P := by
  rw [gsh_, gsh_p P (Nat.le_refl _), pe_q, uN_s]
  unfold gpt_
  rw [if_neg (fun z => Nat.lt_irrefl _ z.2), show 2048 * s + N - 1 - (2048 * s + N) = 0 by omega]
  split <;> rfl
/-- a part without points changes nothing -/
theorem gat_p (ht : t < 2) : gat_ kn xs ys (uS_ SN t (PA t) (PT t)) (uN_ PA t (PA t + 1)) PT = gat_ kn xs ys SN PA PT := by
  unfold gat_
  rcases (show t = 0 ∨ t = 1 by omega) with e | e
  · subst e; rw [uS_s, uN_s, gsh_q, uS_n (by decide), uN_n (by decide)]
  · subst e; rw [uS_s, uN_s, gsh_q, uS_n (by decide), uN_n (by decide)]
theorem wr_p {L : List (Nat × Nat × Nat)} {x0 y0 dx dy : Int64} {N D : Int} {s : Nat} : wr_ kn xs ys L (uN_ PA t (PA t + 1)) PT (uS_ SN t (PA t) (PT t)) x0 y0 dx dy N D s = wr_ kn xs ys L PA PT SN x0 y0 dx dy N D s := by
  unfold wr_
  by_cases e : s = t
  · subst e; rw [uS_s, uN_s]; unfold whr_; rw [en_q]
  · rw [uS_n e, uN_n e]
theorem lkM_p (ht : t < 2) {mr mr' : Nat → Int32} : ∀ a b, t3_ a → t3_ b → mat_ (lkM_ kn xs ys (uS_ SN t (PA t) (PT t)) (uN_ PA t (PA t + 1)) PT mr') a b = mat_ (lkM_ kn xs ys SN PA PT mr) a b := by
  have z1 : rz_ (reT_ kn xs ys (uS_ SN t (PA t) (PT t)) (uN_ PA t (PA t + 1)) PT) (upd (fil_ mr' (-1) 9) 8 2) (lkM_ kn xs ys (uS_ SN t (PA t) (PT t)) (uN_ PA t (PA t + 1)) PT mr') := lkM_z
  have z2 : rz_ (reT_ kn xs ys SN PA PT) (upd (fil_ mr (-1) 9) 8 2) (lkM_ kn xs ys SN PA PT mr) := lkM_z
  have e : ∀ x y d, reT_ kn xs ys (uS_ SN t (PA t) (PT t)) (uN_ PA t (PA t + 1)) PT x y d ↔ reT_ kn xs ys SN PA PT x y d := fun x y d => by
    unfold reT_ ptT_ bmT_ cT_ wT0_
    simp only [gat_p ht, wr_p]
  exact rz_q z1 z2 (fun a b ha hb => (m0_e ha hb).trans (m0_e ha hb).symm) (fun a b d h => Or.inr ⟨d, (e a b d).mp h, Int32.le_refl _⟩) (fun a b d h => Or.inr ⟨d, (e a b d).mpr h, Int32.le_refl _⟩)
theorem MI_p (ht : t < 2) {fr : Int32} {mx : Nat → Int32} (h : MI_ fr mx kn xs ys SN PA PT) : MI_ fr mx kn xs ys (uS_ SN t (PA t) (PT t)) (uN_ PA t (PA t + 1)) PT := by
  rcases h with h | ⟨h1, h2⟩
  · exact Or.inl h
  · exact Or.inr ⟨h1, fun mr a b ha hb => (h2 mr a b ha hb).trans (lkM_p ht a b ha hb).symm⟩
end
section
variable {n : Nat} {kn pt pa bg xs ys : Nat → Int32} {PT PA : Nat → Nat} {SN : Nat → Nat → Nat}
variable {kd1 pr1 sc1 mn1 : Int32} {cx1 cp1 ct1 : Nat} {xs1 ys1 st1 ta1 he1 ma1 : Nat → Int32} {kd2 pr2 sc2 mn2 : Int32} {cx2 cp2 ct2 : Nat} {xs2 ys2 st2 ta2 he2 ma2 : Nat → Int32}
theorem an_loc (hr : RI_ n kn pt pa bg xs ys PT PA SN) {t : Nat} (ht : t < 2) (hF : FI_ t kn xs ys PT PA SN kd1 pr1 sc1 mn1 cx1 cp1 ct1 xs1 ys1 st1 ta1 he1 ma1) {x y : Int32} (hx : far_ x = 0) (hy : far_ y = 0) :
    whs_ kd1 xs1 ys1 (prS_ kd1 xs1 ys1 (SN t) (PA t) (PT t) (PA t)) (prM_ kd1 xs1 ys1 (SN t) (PA t) (PT t) (PA t)) x y = wr_ kn xs ys (gat_ kn xs ys SN PA PT) PA PT SN x.toInt64 y.toInt64 0 0 0 1 t := by
  have h := hr.2.1
  have fr : ∀ v : Int32, far_ v = 0 → r5_ v := fun v hv => by
    unfold far_ at hv
    by_cases q : wi_ v (-500000000) 500000000 = 0
    · rw [if_pos q] at hv; exact absurd hv (by decide)
    · unfold wi_ at q
      have k := if10.mp q
      rw [Int32.le_iff_toInt_le, Int32.le_iff_toInt_le] at k
      have a : (-500000000 : Int32).toInt = -500000000 := by decide
      have c : (500000000 : Int32).toInt = 500000000 := by decide
      rw [a, c] at k; exact k
  have e := SS_x h ht hF.2.1
  rw [hF.1, e.1, e.2, whs_x (agS_ h ht hF.2.1) (agM_ h ht hF.2.1), wr_b h (plc_p (fr x hx) (fr y hy)) ht]
  exact whs_b (shr_f (h t ht)) (fr x hx) (fr y hy) (MM_n h ht)
theorem an_ref (hr : RI_ n kn pt pa bg xs ys PT PA SN) (h1 : FI_ 0 kn xs ys PT PA SN kd1 pr1 sc1 mn1 cx1 cp1 ct1 xs1 ys1 st1 ta1 he1 ma1) (h2 : FI_ 1 kn xs ys PT PA SN kd2 pr2 sc2 mn2 cx2 cp2 ct2 xs2 ys2 st2 ta2 he2 ma2) {mx mx2 : Nat → Int32}
    (href : ref_ kd1 kd2 0 64 xs1 ys1 (prS_ kd1 xs1 ys1 (SN 0) (PA 0) (PT 0) (PA 0)) (prM_ kd1 xs1 ys1 (SN 0) (PA 0) (PT 0) (PA 0)) xs2 ys2 (prS_ kd2 xs2 ys2 (SN 1) (PA 1) (PT 1) (PA 1)) (prM_ kd2 xs2 ys2 (SN 1) (PA 1) (PT 1) (PA 1)) (PT 0) (PT 1) mx mx2) : MI_ 1 mx2 kn xs ys SN PA PT := by
  have k1 := h1.1; have k2 := h2.1
  subst k1; subst k2
  exact Or.inr ⟨rfl, fun mr => mat_q hr.2.1 h1.2.1 h2.2.1 href⟩
theorem an_val (hr : RI_ n kn pt pa bg xs ys PT PA SN) (h1 : FI_ 0 kn xs ys PT PA SN kd1 pr1 sc1 mn1 cx1 cp1 ct1 xs1 ys1 st1 ta1 he1 ma1) (h2 : FI_ 1 kn xs ys PT PA SN kd2 pr2 sc2 mn2 cx2 cp2 ct2 xs2 ys2 st2 ta2 he2 ma2) {t : Nat} (ht : t < 2) {kd3 : Int32} {xs3 ys3 : Nat → Int32} (k3 : kd3 = kn t) (h3 : agr_ xs ys t (PT t) xs3 ys3) :
    ∀ q ∈ prS_ kd3 xs3 ys3 (SN t) (PA t) (PT t) (PA t), ∀ c ∈ cutl_ 0 64 xs1 ys1 (prS_ kd1 xs1 ys1 (SN 0) (PA 0) (PT 0) (PA 0)) (prM_ kd1 xs1 ys1 (SN 0) (PA 0) (PT 0) (PA 0)) xs2 ys2 (prS_ kd2 xs2 ys2 (SN 1) (PA 1) (PT 1) (PA 1)) (prM_ kd2 xs2 ys2 (SN 1) (PA 1) (PT 1) (PA 1)) (xs3 q.1).toInt64 (ys3 q.1).toInt64 ((xs3 q.2).toInt64 - (xs3 q.1).toInt64) ((ys3 q.2).toInt64 - (ys3 q.1).toInt64), cvd_ c := by
  have h := hr.2.1
  intro q hq c hc
  rw [k3, (SS_x h ht h3).1] at hq
  rw [h1.1, h2.1, (SS_x h (by decide) h1.2.1).1, (SS_x h (by decide) h1.2.1).2, (SS_x h (by decide) h2.2.1).1, (SS_x h (by decide) h2.2.1).2, cut_x h h1.2.1 h2.2.1 ht hq h3] at hc
  exact cc_v h ht hq c hc
theorem an_is (hr : RI_ n kn pt pa bg xs ys PT PA SN) {mx mr ha : Nat → Int32} {w : Int32} (hm : MI_ 1 mx kn xs ys SN PA PT) : isc_ w mx = isq_ w (lkM_ kn xs ys SN PA PT mr) (ino_ (kn 0) (PT 0) (gat_ kn xs ys SN PA PT) 0 (lkH_ kn xs ys SN PA PT ha 0)) (ino_ (kn 1) (PT 1) (gat_ kn xs ys SN PA PT) 1 (lkH_ kn xs ys SN PA PT ha 1)) := by
  rcases hm with z | ⟨-, hm⟩
  · exact absurd z (by decide)
  · exact isq_v (hm mr) lkM_1 (ino_v (s := 0) hr.2.1 (by decide)) (ino_v (s := 1) hr.2.1 (by decide))
theorem an_rel {mx mr : Nat → Int32} (hm : MI_ 1 mx kn xs ys SN PA PT) : rel_ mx 9 = rel_ (lkM_ kn xs ys SN PA PT mr) 9 := by
  rcases hm with z | ⟨-, hm⟩
  · exact absurd z (by decide)
  · exact rel_x 9 (mat_9 (hm mr))
theorem an_ent {mx mr : Nat → Int32} (hm : MI_ 1 mx kn xs ys SN PA PT) {a b : Int32} (ha : ¬ wi_ a 0 2 = 0) (hb : ¬ wi_ b 0 2 = 0) : mat_ mx a b = mat_ (lkM_ kn xs ys SN PA PT mr) a b := by
  rcases hm with z | ⟨-, hm⟩
  · exact absurd z (by decide)
  · exact hm mr a b (t3_w ha) (t3_w hb)
theorem an_dim (hr : RI_ n kn pt pa bg xs ys PT PA SN) {mx ha : Nat → Int32} (mr : Nat → Int32) (hm : MI_ 1 mx kn xs ys SN PA PT) {t : Nat} (ht : t < 2) : mx_ (Dm_ t mx 0) (Dm_ t mx 1) = if ino_ (kn t) (PT t) (gat_ kn xs ys SN PA PT) t (lkH_ kn xs ys SN PA PT ha t) < 0 ∧ ¬ hsg_ (gat_ kn xs ys SN PA PT) t = 0 then 1 else ino_ (kn t) (PT t) (gat_ kn xs ys SN PA PT) t (lkH_ kn xs ys SN PA PT ha t) := by
  rcases hm with z | ⟨-, hm⟩
  · exact absurd z (by decide)
  · rw [← dim_v (mr := mr) hr.2.1 ht]
    have e : ∀ a, t3_ a → Dm_ t mx a = Dm_ t (lkM_ kn xs ys SN PA PT mr) a := fun a ha => by
      unfold Dm_ dif_ dis_
      rw [hm mr a 0 ha t3_0, hm mr a 1 ha t3_1, hm mr a 2 ha t3_2, hm mr 0 a t3_0 ha, hm mr 1 a t3_1 ha, hm mr 2 a t3_2 ha]
    rw [e 0 t3_0, e 1 t3_1]
/-- the room of the cuts -/
theorem an_cap (hr : RI_ n kn pt pa bg xs ys PT PA SN) (h1 : FI_ 0 kn xs ys PT PA SN kd1 pr1 sc1 mn1 cx1 cp1 ct1 xs1 ys1 st1 ta1 he1 ma1) (h2 : FI_ 1 kn xs ys PT PA SN kd2 pr2 sc2 mn2 cx2 cp2 ct2 xs2 ys2 st2 ta2 he2 ma2) {cap : Nat} (hc : cap ≤ 8192) {z1 z2 z3 z4 : Nat → Int32} :
    cap ≤ cpl_ (nct_ 0 64 xs1 ys1 (prS_ kd1 xs1 ys1 (SN 0) (PA 0) (PT 0) (PA 0)) (prM_ kd1 xs1 ys1 (SN 0) (PA 0) (PT 0) (PA 0)) xs2 ys2 (prS_ kd2 xs2 ys2 (SN 1) (PA 1) (PT 1) (PA 1)) (prM_ kd2 xs2 ys2 (SN 1) (PA 1) (PT 1) (PA 1)) z3 z4) (cpl_ (nct_ 0 64 xs1 ys1 (prS_ kd1 xs1 ys1 (SN 0) (PA 0) (PT 0) (PA 0)) (prM_ kd1 xs1 ys1 (SN 0) (PA 0) (PT 0) (PA 0)) xs2 ys2 (prS_ kd2 xs2 ys2 (SN 1) (PA 1) (PT 1) (PA 1)) (prM_ kd2 xs2 ys2 (SN 1) (PA 1) (PT 1) (PA 1)) z1 z2) cap (prS_ kd1 xs1 ys1 (SN 0) (PA 0) (PT 0) (PA 0))) (prS_ kd2 xs2 ys2 (SN 1) (PA 1) (PT 1) (PA 1)) ∧
    cpl_ (nct_ 0 64 xs1 ys1 (prS_ kd1 xs1 ys1 (SN 0) (PA 0) (PT 0) (PA 0)) (prM_ kd1 xs1 ys1 (SN 0) (PA 0) (PT 0) (PA 0)) xs2 ys2 (prS_ kd2 xs2 ys2 (SN 1) (PA 1) (PT 1) (PA 1)) (prM_ kd2 xs2 ys2 (SN 1) (PA 1) (PT 1) (PA 1)) z3 z4) (cpl_ (nct_ 0 64 xs1 ys1 (prS_ kd1 xs1 ys1 (SN 0) (PA 0) (PT 0) (PA 0)) (prM_ kd1 xs1 ys1 (SN 0) (PA 0) (PT 0) (PA 0)) xs2 ys2 (prS_ kd2 xs2 ys2 (SN 1) (PA 1) (PT 1) (PA 1)) (prM_ kd2 xs2 ys2 (SN 1) (PA 1) (PT 1) (PA 1)) z1 z2) cap (prS_ kd1 xs1 ys1 (SN 0) (PA 0) (PT 0) (PA 0))) (prS_ kd2 xs2 ys2 (SN 1) (PA 1) (PT 1) (PA 1)) ≤ 8192 := by
  have l0 := hr.2.2.1 0 (by decide); have l1 := hr.2.2.1 1 (by decide); have l9 := hr.2.2.2
  have b : ∀ s : Nat, bn_ (SN s) (PA s) (PT s) (PA s) = PT s := fun s => by unfold bn_; rw [if_neg (Nat.lt_irrefl _)]
  have k1 := prK_ (kd := kd1) (xs := xs1) (ys := ys1) h1.2.2.1 (by omega) (PA 0) (Nat.le_refl _)
  have k2 := prK_ (kd := kd2) (xs := xs2) (ys := ys2) h2.2.2.1 (by omega) (PA 1) (Nat.le_refl _)
  rw [b] at k1 k2
  have nb : ∀ (z z' : Nat → Int32) (q : Nat × Nat), 2 * nct_ 0 64 xs1 ys1 (prS_ kd1 xs1 ys1 (SN 0) (PA 0) (PT 0) (PA 0)) (prM_ kd1 xs1 ys1 (SN 0) (PA 0) (PT 0) (PA 0)) xs2 ys2 (prS_ kd2 xs2 ys2 (SN 1) (PA 1) (PT 1) (PA 1)) (prM_ kd2 xs2 ys2 (SN 1) (PA 1) (PT 1) (PA 1)) z z' q ≤ 8192 := fun z z' q => by
    have := nct_b (ks1 := 0) (ks2 := 64) (xs1 := xs1) (ys1 := ys1) (sl1 := prS_ kd1 xs1 ys1 (SN 0) (PA 0) (PT 0) (PA 0)) (ml1 := prM_ kd1 xs1 ys1 (SN 0) (PA 0) (PT 0) (PA 0)) (xs2 := xs2) (ys2 := ys2) (sl2 := prS_ kd2 xs2 ys2 (SN 1) (PA 1) (PT 1) (PA 1)) (ml2 := prM_ kd2 xs2 ys2 (SN 1) (PA 1) (PT 1) (PA 1)) (xs := z) (ys := z') (q := q)
    omega
  exact ⟨Nat.le_trans (cpl_l _) (cpl_l _), cpl_u (cpl_u hc (nb z1 z2) _) (nb z3 z4) _⟩
end
