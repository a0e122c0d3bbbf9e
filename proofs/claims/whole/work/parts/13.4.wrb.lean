/-! where a place is: the reference and the class mean the same -/
/-- a place, as both take it -/
def plc_ (x0 y0 dx dy : Int64) (X0 Y0 DX DY N D : Int) : Prop := x0.toInt = X0 ∧ y0.toInt = Y0 ∧ dx.toInt = DX ∧ dy.toInt = DY ∧ (-500000000 ≤ X0 ∧ X0 ≤ 500000000) ∧ (-500000000 ≤ Y0 ∧ Y0 ≤ 500000000) ∧ (-1000000000 ≤ DX ∧ DX ≤ 1000000000) ∧ (-1000000000 ≤ DY ∧ DY ≤ 1000000000) ∧ 0 < D
/-- a shape's numbers in the reference -/
def shr_ (kd : Int32) (xs ys : Nat → Int32) (sn : Nat → Nat) (P N : Nat) : Prop :=
  (kd = 1 ∨ kd = 2 ∨ kd = 3) ∧ mon_ sn P N ∧ (0 < P → sn 0 = 0) ∧ (P = 0 → N = 0) ∧ N ≤ 2048 ∧ P ≤ 1024 ∧ (∀ i, i < N → r5_ (xs i) ∧ r5_ (ys i))
def sta0_ (sn : Nat → Nat) : Nat → Int32 := fun i => nI (sn i)
theorem shr_s {kd : Int32} {xs ys : Nat → Int32} {sn : Nat → Nat} {P N : Nat} (h : shr_ kd xs ys sn P N) : sta_ sn P N (sta0_ sn) := ⟨fun i hi => ⟨rfl, h.2.1.2 i hi⟩, h.2.1.1, h.2.2.1⟩
/-- the segments and the marks of a shape -/
def sS_ (kd : Int32) (xs ys : Nat → Int32) (sn : Nat → Nat) (P N : Nat) : List (Nat × Nat) := prS_ kd xs ys sn P N P
def sM_ (kd : Int32) (xs ys : Nat → Int32) (sn : Nat → Nat) (P N : Nat) : List Nat := prM_ kd xs ys sn P N P
theorem shr_f {kd : Int32} {xs ys : Nat → Int32} {sn : Nat → Nat} {P N : Nat} (h : shr_ kd xs ys sn P N) : fgr_ kd xs ys (sS_ kd xs ys sn P N) (sM_ kd xs ys sn P N) := by
  have hs := shr_s h
  have hq := prS_q (kd := kd) (xs := xs) (ys := ys) hs
  have hk := prK_ (kd := kd) (xs := xs) (ys := ys) hs (by have := h.2.2.2.2.1; omega) P (Nat.le_refl _)
  have hb : bn_ sn P N P = N := by unfold bn_; rw [if_neg (Nat.lt_irrefl _)]
  rw [hb] at hk
  have hr := h.2.2.2.2.2.2
  refine ⟨h.1, fun e => ?_, fun e => ?_, fun e φ hφ => ?_, fun q hq2 => ?_, fun i hi => hr i (hk.2.2 i hi), ?_, prS_d P⟩
  · subst e; exact prS_1 P
  · subst e; exact prM_3 P
  · subst e; exact prS_e hφ P
  · have := hq q hq2
    exact ⟨(hr _ this.1).1, (hr _ this.1).2, (hr _ this.2).1, (hr _ this.2).2⟩
  · have := h.2.2.2.2.1; unfold sS_; omega
section
variable {xs ys : Nat → Int32} {x0 y0 dx dy : Int64} {X0 Y0 DX DY N D : Int}
theorem isp_b (hp : plc_ x0 y0 dx dy X0 Y0 DX DY N D) {i : Nat} : ¬ isp_ xs ys x0 y0 dx dy N D i = 0 ↔ atp_ xs ys X0 Y0 DX DY N D i = true := by
  obtain ⟨h1, h2, h3, h4, b1, b2, b3, b4, hD⟩ := hp
  unfold isp_ atp_
  rw [if10, decide_eq_true_eq, ovx_v h1 h3 b1, ovx_v h2 h4 b2, si_0, si_0]
  exact ⟨fun h => ⟨by omega, by omega⟩, fun h => ⟨by omega, by omega⟩⟩
theorem atp_f {i j : Nat} (h1 : xs i = xs j) (h2 : ys i = ys j) : atp_ xs ys X0 Y0 DX DY N D i = atp_ xs ys X0 Y0 DX DY N D j := by unfold atp_; rw [h1, h2]
theorem atp_g (hD : 0 < D) {i j : Nat} (h1 : atp_ xs ys X0 Y0 DX DY N D i = true) (h2 : atp_ xs ys X0 Y0 DX DY N D j = true) : xs i = xs j ∧ ys i = ys j := by
  unfold atp_ rv_ at h1 h2
  rw [decide_eq_true_eq] at h1 h2
  have e1 : D * ((xs i).toInt - (xs j).toInt) = 0 := by grind
  have e2 : D * ((ys i).toInt - (ys j).toInt) = 0 := by grind
  constructor
  · apply Int32.toInt_inj.mp; rcases Int.mul_eq_zero.mp e1 with q | q <;> omega
  · apply Int32.toInt_inj.mp; rcases Int.mul_eq_zero.mp e2 with q | q <;> omega
theorem hp_e {f : Nat → Int32} : ∀ n, ¬ hp_ f n = 0 ↔ ∃ k, k < n ∧ ¬ f k = 0
  | 0 => ⟨fun h => absurd rfl h, fun ⟨k, h, _⟩ => absurd h (Nat.not_lt_zero _)⟩
  | n + 1 => by
    rw [hp_]
    by_cases q : hp_ f n = 0
    · rw [if_pos q]
      constructor
      · intro h; exact ⟨n, by omega, h⟩
      · rintro ⟨k, h1, h2⟩
        rcases Nat.lt_or_ge k n with w | w
        · exact absurd q ((hp_e n).mpr ⟨k, w, h2⟩)
        · rw [show n = k by omega]; exact h2
    · rw [if_neg q]
      obtain ⟨k, h1, h2⟩ := (hp_e n).mp q
      exact ⟨fun _ => ⟨k, by omega, h2⟩, fun _ => q⟩
theorem en_b (hp : plc_ x0 y0 dx dy X0 Y0 DX DY N D) {sn : Nat → Nat} {P n s : Nat} (hm : mon_ sn P n) : ∀ k, k ≤ P → en_ (isp_ xs ys x0 y0 dx dy N D) sn P n (2048 * s) k = eq2_ (atp_ (xo_ xs s) (xo_ ys s) X0 Y0 DX DY N D) sn P n k
  | 0, _ => rfl
  | k + 1, h => by
    rw [en_, eq2_, en_b hp hm k (by omega)]
    congr 1
    by_cases q : sn k < pe_ sn P n k
    · rw [if_pos q, if_pos q]
      unfold ew_ b01_
      have e : ∀ i, atp_ (xo_ xs s) (xo_ ys s) X0 Y0 DX DY N D i = true ↔ ¬ isp_ xs ys x0 y0 dx dy N D (2048 * s + i) = 0 := fun i => (isp_b hp (i := 2048 * s + i)).symm
      have g : ∀ i, (if isp_ xs ys x0 y0 dx dy N D (2048 * s + i) = 0 then 0 else 1) = (if atp_ (xo_ xs s) (xo_ ys s) X0 Y0 DX DY N D i = true then 1 else 0) := fun i => by
        by_cases c : isp_ xs ys x0 y0 dx dy N D (2048 * s + i) = 0
        · rw [if_pos c, if_neg (fun z => (e i).mp z c)]
        · rw [if_neg c, if_pos ((e i).mpr c)]
      rw [show 2048 * s + pe_ sn P n k - 1 = 2048 * s + (pe_ sn P n k - 1) by omega, g, g]
    · rw [if_neg q, if_neg q]
end
section
variable {kn xs ys : Nat → Int32} {PA PT : Nat → Nat} {SN : Nat → Nat → Nat} {x0 y0 dx dy : Int64} {X0 Y0 DX DY N D : Int}
/-- both shapes' numbers -/
def shs_ (kn xs ys : Nat → Int32) (SN : Nat → Nat → Nat) (PA PT : Nat → Nat) : Prop := ∀ s, s < 2 → shr_ (kn s) (xo_ xs s) (xo_ ys s) (SN s) (PA s) (PT s)
/-- the segments, the marks of shape s -/
def SS_ (kn xs ys : Nat → Int32) (SN : Nat → Nat → Nat) (PA PT : Nat → Nat) (s : Nat) : List (Nat × Nat) := sS_ (kn s) (xo_ xs s) (xo_ ys s) (SN s) (PA s) (PT s)
def MM_ (kn xs ys : Nat → Int32) (SN : Nat → Nat → Nat) (PA PT : Nat → Nat) (s : Nat) : List Nat := sM_ (kn s) (xo_ xs s) (xo_ ys s) (SN s) (PA s) (PT s)
theorem gat_2 (h : shs_ kn xs ys SN PA PT) : gat_ kn xs ys SN PA PT = (SS_ kn xs ys SN PA PT 0).map (m3_ 0) ++ (SS_ kn xs ys SN PA PT 1).map (m3_ 1) := gat_g (fun s hs => (h s hs).1) (fun s hs => (h s hs).2.1)
theorem SS_i {s : Nat} (hs : s < 2) {f : Nat → List (Nat × Nat)} : (if s = 0 then f 0 else f 1) = f s := by
  rcases (show s = 0 ∨ s = 1 by omega) with rfl | rfl <;> rfl
/-- how many segments the place is on, and how many the way to the right crosses -/
theorem cnt_b (h : shs_ kn xs ys SN PA PT) (hp : plc_ x0 y0 dx dy X0 Y0 DX DY N D) {s : Nat} (hs : s < 2) :
    (gat_ kn xs ys SN PA PT).countP (hF_ xs ys x0 y0 dx dy N D s) = sm_ (onq_ (xo_ xs s) (xo_ ys s) X0 Y0 DX DY N D) (SS_ kn xs ys SN PA PT s) ∧
    (gat_ kn xs ys SN PA PT).countP (cF_ xs ys x0 y0 dx dy N D s) = sm_ (cyq_ (xo_ xs s) (xo_ ys s) X0 Y0 DX DY N D) (SS_ kn xs ys SN PA PT s) := by
  obtain ⟨h1, h2, h3, h4, b1, b2, b3, b4, hD⟩ := hp
  have hr := (shr_f (h s hs)).2.2.2.2.1
  have key : ∀ q ∈ SS_ kn xs ys SN PA PT s, (¬ iso_ xs ys x0 y0 dx dy N D (2048 * s + q.1) (2048 * s + q.2) = 0 ↔ onq_ (xo_ xs s) (xo_ ys s) X0 Y0 DX DY N D q = 1) ∧ (¬ crx_ xs ys x0 y0 dx dy N D (2048 * s + q.1) (2048 * s + q.2) = 0 ↔ cyq_ (xo_ xs s) (xo_ ys s) X0 Y0 DX DY N D q = 1) := by
    intro q hq
    obtain ⟨r1, r2, r3, r4⟩ := hr q hq
    exact ⟨iso_b hD h1 h2 h3 h4 b1 b2 b3 b4 r1 r2 r3 r4, crx_b hD h1 h2 h3 h4 b1 b2 b3 b4 r1 r2 r3 r4⟩
  rw [gat_2 h]
  constructor
  · rw [cp_m hs (fun w hw => by unfold hF_; exact decide_eq_false (fun z => hw z.1)), SS_i hs (f := fun s => SS_ kn xs ys SN PA PT s)]
    apply sm_e
    intro q hq
    have k := (key q hq).1
    unfold hF_ m3_
    by_cases c : iso_ xs ys x0 y0 dx dy N D (2048 * s + q.1) (2048 * s + q.2) = 0
    · have z : onq_ (xo_ xs s) (xo_ ys s) X0 Y0 DX DY N D q = 0 := by
        have a : ¬ onq_ (xo_ xs s) (xo_ ys s) X0 Y0 DX DY N D q = 1 := fun w => (k.mpr w) c
        unfold onq_ at a ⊢
        rcases on_01 (vx := rv_ X0 DX N D (xo_ xs s q.1).toInt) (vy := rv_ Y0 DY N D (xo_ ys s q.1).toInt) (wx := rv_ X0 DX N D (xo_ xs s q.2).toInt) (wy := rv_ Y0 DY N D (xo_ ys s q.2).toInt) with w | w
        · exact absurd w a
        · exact w
      rw [z, if_neg]; intro w; exact (of_decide_eq_true w).2 c
    · rw [k.mp c, if_pos]; exact decide_eq_true ⟨rfl, c⟩
  · rw [cp_m hs (fun w hw => by unfold cF_; exact decide_eq_false (fun z => hw z.1)), SS_i hs (f := fun s => SS_ kn xs ys SN PA PT s)]
    apply sm_e
    intro q hq
    obtain ⟨k1, k2⟩ := key q hq
    unfold cF_ m3_
    by_cases c : crx_ xs ys x0 y0 dx dy N D (2048 * s + q.1) (2048 * s + q.2) = 0
    · have z : cyq_ (xo_ xs s) (xo_ ys s) X0 Y0 DX DY N D q = 0 := by
        have a : ¬ cyq_ (xo_ xs s) (xo_ ys s) X0 Y0 DX DY N D q = 1 := fun w => (k2.mpr w) c
        unfold cyq_ CL_ at a ⊢
        exact pn_n (fun w => a (pn_1.mpr w))
      rw [z, if_neg]; intro w; exact (of_decide_eq_true w).2.2 c
    · have w := k2.mp c
      have ni : iso_ xs ys x0 y0 dx dy N D (2048 * s + q.1) (2048 * s + q.2) = 0 := Decidable.byContradiction (fun z => by
        have o := (on_1.mp (k1.mp z)).1
        have e : kvq_ (xo_ xs s) (xo_ ys s) X0 Y0 DX DY N D q = 0 := o
        unfold cyq_ at w; rw [e, CL_0] at w; exact absurd w (by decide))
      rw [w, if_pos]; exact decide_eq_true ⟨rfl, ni, c⟩
/-- where a place is -/
theorem wr_b (h : shs_ kn xs ys SN PA PT) (hp : plc_ x0 y0 dx dy X0 Y0 DX DY N D) {s : Nat} (hs : s < 2) :
    wr_ kn xs ys (gat_ kn xs ys SN PA PT) PA PT SN x0 y0 dx dy N D s = wI_ (kn s) (sm_ (onq_ (xo_ xs s) (xo_ ys s) X0 Y0 DX DY N D) (SS_ kn xs ys SN PA PT s)) ((MM_ kn xs ys SN PA PT s).any (atp_ (xo_ xs s) (xo_ ys s) X0 Y0 DX DY N D)) (sm_ (cyq_ (xo_ xs s) (xo_ ys s) X0 Y0 DX DY N D) (SS_ kn xs ys SN PA PT s)) := by
  obtain ⟨c1, c2⟩ := cnt_b h hp hs
  have hh := h s hs
  have hst := shr_s hh
  unfold wr_ whr_ wI_
  rw [c1, c2]
  rcases hh.1 with e | e | e
  · rw [if_pos e, if_pos e]
    have k : ¬ hp_ (fun k => isp_ xs ys x0 y0 dx dy N D (2048 * s + k)) (PT s) = 0 ↔ (MM_ kn xs ys SN PA PT s).any (atp_ (xo_ xs s) (xo_ ys s) X0 Y0 DX DY N D) = true := by
      rw [hp_e, List.any_eq_true]
      have mem : ∀ i, i ∈ MM_ kn xs ys SN PA PT s ↔ i < PT s := fun i => by
        unfold MM_ sM_
        rw [e]
        rcases Nat.eq_zero_or_pos (PA s) with z | z
        · rw [z]
          have := hh.2.2.2.1 z
          exact ⟨fun q => absurd q (by simp [prM_]), fun q => by omega⟩
        · rw [prM_1 hst (PA s) (Nat.le_refl _) z]
          have hb : bn_ (SN s) (PA s) (PT s) (PA s) = PT s := by unfold bn_; rw [if_neg (Nat.lt_irrefl _)]
          rw [hb, List.mem_range'_1]; omega
      constructor
      · rintro ⟨i, h1, h2⟩; exact ⟨i, (mem i).mpr h1, (isp_b hp (i := 2048 * s + i)).mp h2⟩
      · rintro ⟨i, h1, h2⟩; exact ⟨i, (mem i).mp h1, (isp_b hp (i := 2048 * s + i)).mpr h2⟩
    by_cases c : hp_ (fun k => isp_ xs ys x0 y0 dx dy N D (2048 * s + k)) (PT s) = 0
    · rw [if_pos c, if_neg (fun z => (k.mpr z) c)]
    · rw [if_neg c, if_pos (k.mp c)]
  · have n1 : ¬ kn s = 1 := by rw [e]; decide
    rw [if_neg n1, if_neg n1, if_pos e, if_pos e]
    have hf : ∀ i j, xo_ xs s i = xo_ xs s j → xo_ ys s i = xo_ ys s j → atp_ (xo_ xs s) (xo_ ys s) X0 Y0 DX DY N D i = atp_ (xo_ xs s) (xo_ ys s) X0 Y0 DX DY N D j := fun i j h1 h2 => atp_f h1 h2
    obtain ⟨m1, m2⟩ := prM_2 hf hst (by have := hh.2.2.2.2.1; omega) (PA s) (Nat.le_refl _)
    have k : (en_ (isp_ xs ys x0 y0 dx dy N D) (SN s) (PA s) (PT s) (2048 * s) (PA s) % 2 = 1) ↔ (MM_ kn xs ys SN PA PT s).any (atp_ (xo_ xs s) (xo_ ys s) X0 Y0 DX DY N D) = true := by
      rw [en_b hp hh.2.1 (PA s) (Nat.le_refl _), ← m1]
      unfold MM_ sM_; rw [e]
      exact (md_1 (fun i j => atp_g hp.2.2.2.2.2.2.2.2) _ m2).symm
    by_cases c : en_ (isp_ xs ys x0 y0 dx dy N D) (SN s) (PA s) (PT s) (2048 * s) (PA s) % 2 = 1
    · rw [if_pos c, if_pos (k.mp c)]
    · rw [if_neg c, if_neg (fun z => c (k.mpr z))]
  · have n1 : ¬ kn s = 1 := by rw [e]; decide
    have n2 : ¬ kn s = 2 := by rw [e]; decide
    rw [if_neg n1, if_neg n1, if_neg n2, if_neg n2]
/-- beside a place -/
theorem bs_b (h : shs_ kn xs ys SN PA PT) (hp : plc_ x0 y0 dx dy X0 Y0 DX DY N D) {s : Nat} (hs : s < 2) (ot : Int32) :
    bsr_ (kn s) (bsn_ xs ys x0 y0 dx dy N D (gat_ kn xs ys SN PA PT) s ot) = bI_ (kn s) (sm_ (cyq_ (xo_ xs s) (xo_ ys s) X0 Y0 DX DY N D) (SS_ kn xs ys SN PA PT s) + (if ot = 0 then 0 else sm_ (onq_ (xo_ xs s) (xo_ ys s) X0 Y0 DX DY N D) (SS_ kn xs ys SN PA PT s))) := by
  obtain ⟨c1, c2⟩ := cnt_b h hp hs
  unfold bsr_ bI_ bsn_
  rw [c1, c2]
  rcases (h s hs).1 with e | e | e
  · rw [e, if_pos (by decide), if_neg (fun z => absurd z.1 (by decide))]
  · rw [e, if_pos (by decide), if_neg (fun z => absurd z.1 (by decide))]
  · rw [e, if_neg (by decide)]
    have m : ∀ a b : Nat, (a % 2 + b) % 2 = (a + b) % 2 := fun a b => by omega
    rw [m]
    generalize (if ot = 0 then 0 else sm_ (onq_ (xo_ xs s) (xo_ ys s) X0 Y0 DX DY N D) (SS_ kn xs ys SN PA PT s)) = g
    by_cases z : (sm_ (cyq_ (xo_ xs s) (xo_ ys s) X0 Y0 DX DY N D) (SS_ kn xs ys SN PA PT s) + g) % 2 = 1
    · rw [if_pos z, if_pos ⟨rfl, z⟩]
    · rw [if_neg z, if_neg (fun w => z w.2)]
end
