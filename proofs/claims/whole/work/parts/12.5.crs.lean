/-! a course at the place N / D of a beam: what its cuts tell -/
def bm5_ (bx by1 bdx bdy : Int64) (AX AY DX DY : Int) : Prop :=
  bx.toInt = AX ∧ by1.toInt = AY ∧ bdx.toInt = DX ∧ bdy.toInt = DY ∧ (-500000000 ≤ AX ∧ AX ≤ 500000000) ∧ (-500000000 ≤ AY ∧ AY ≤ 500000000) ∧ (-1000000000 ≤ DX ∧ DX ≤ 1000000000) ∧ (-1000000000 ≤ DY ∧ DY ≤ 1000000000) ∧ ¬ (DX = 0 ∧ DY = 0)
section
variable (xs ys : Nat → Int32) (AX AY DX DY N D : Int)
def onq_ (q : Nat × Nat) : Nat := on_ (rv_ AX DX N D (xs q.1).toInt) (rv_ AY DY N D (ys q.1).toInt) (rv_ AX DX N D (xs q.2).toInt) (rv_ AY DY N D (ys q.2).toInt)
def kvq_ (q : Nat × Nat) : Int := kv_ (rv_ AX DX N D (xs q.1).toInt) (rv_ AY DY N D (ys q.1).toInt) (rv_ AX DX N D (xs q.2).toInt) (rv_ AY DY N D (ys q.2).toInt)
def cyq_ (q : Nat × Nat) : Nat := CL_ (rv_ AY DY N D (ys q.1).toInt) (rv_ AY DY N D (ys q.2).toInt) (kvq_ xs ys AX AY DX DY N D q)
/-- the side of a point -/
def sdp_ (i : Nat) : Int := DX * rv_ AY DY N D (ys i).toInt - DY * rv_ AX DX N D (xs i).toInt
def clq_ (q : Nat × Nat) : Nat := CL_ (sdp_ xs ys AX AY DX DY N D q.1) (sdp_ xs ys AX AY DX DY N D q.2) (kvq_ xs ys AX AY DX DY N D q)
def crq_ (q : Nat × Nat) : Nat := CR_ (sdp_ xs ys AX AY DX DY N D q.1) (sdp_ xs ys AX AY DX DY N D q.2) (kvq_ xs ys AX AY DX DY N D q)
def ztp_ (i : Nat) : Int := zt_ DX DY (rv_ AX DX N D (xs i).toInt) (rv_ AY DY N D (ys i).toInt)
def cdq_ (q : Nat × Nat) : Nat := pn_ (sdp_ xs ys AX AY DX DY N D q.1 = 0 ∧ sdp_ xs ys AX AY DX DY N D q.2 = 0 ∧ (ztp_ xs ys AX AY DX DY N D q.1 ≤ 0 ∨ ztp_ xs ys AX AY DX DY N D q.2 ≤ 0) ∧ (0 < ztp_ xs ys AX AY DX DY N D q.1 ∨ 0 < ztp_ xs ys AX AY DX DY N D q.2) ∧ N < D)
/-- a point at the place -/
def atp_ (i : Nat) : Bool := decide (rv_ AX DX N D (xs i).toInt = 0 ∧ rv_ AY DY N D (ys i).toInt = 0)
end
section
variable {xs ys : Nat → Int32} {bx by1 bdx bdy : Int64} {AX AY DX DY N D : Int} {ks : Int32}
theorem sid_v (hB : bm5_ bx by1 bdx bdy AX AY DX DY) {px py : Int32} (r1 : r5_ px) (r2 : r5_ py) :
    (sid_ bx by1 bdx bdy px py).toInt = DX * (py.toInt - AY) - DY * (px.toInt - AX) ∧ -2000000000000000000 ≤ DX * (py.toInt - AY) - DY * (px.toInt - AX) ∧ DX * (py.toInt - AY) - DY * (px.toInt - AX) ≤ 2000000000000000000 := by
  obtain ⟨e1, e2, e3, e4, b1, b2, b3, b4, -⟩ := hB
  unfold r5_ at r1 r2
  unfold sid_
  exact jd_ e3 (i6s e2 (by omega)).2 e4 (i6s e1 (by omega)).2 b3 (by omega) b4 (by omega)
theorem rea_v (hB : bm5_ bx by1 bdx bdy AX AY DX DY) {px py qx qy : Int32} (r1 : r5_ px) (r2 : r5_ py) (r3 : r5_ qx) (r4 : r5_ qy) :
    (rea_ bx by1 px py qx qy).toInt = (px.toInt - AX) * (qy.toInt - py.toInt) - (py.toInt - AY) * (qx.toInt - px.toInt) ∧ -2000000000000000000 ≤ (px.toInt - AX) * (qy.toInt - py.toInt) - (py.toInt - AY) * (qx.toInt - px.toInt) ∧ (px.toInt - AX) * (qy.toInt - py.toInt) - (py.toInt - AY) * (qx.toInt - px.toInt) ≤ 2000000000000000000 := by
  obtain ⟨e1, e2, e3, e4, b1, b2, b3, b4, -⟩ := hB
  unfold r5_ at r1 r2 r3 r4
  unfold rea_
  exact jd_ (i6s e1 (by omega)).2 (i64e _ _) (i6s e2 (by omega)).2 (i64e _ _) (by omega) (by omega) (by omega) (by omega)
theorem alo_v (hB : bm5_ bx by1 bdx bdy AX AY DX DY) {px py : Int32} : D * (alo_ bx by1 bdx bdy px py).toInt - N * (spa_ bdx bdy).toInt = zt_ DX DY (rv_ AX DX N D px.toInt) (rv_ AY DY N D py.toInt) := by
  obtain ⟨e1, e2, e3, e4, b1, b2, b3, b4, -⟩ := hB
  unfold alo_ spa_ zt_ rv_
  have z3 := l0_ bdx; have z4 := l0_ bdy
  rw [e3] at z3; rw [e4] at z4
  simp only [z3.2.2.1, z3.1, z4.1]
  by_cases c : DX = 0
  · rw [if_pos c, if_pos c, if_pos c]
    by_cases d : 0 < DY
    · rw [if_pos d, if_pos d, if_pos d, (i6s e2 (by omega)).2, e4]
    · rw [if_neg d, if_neg d, if_neg d, (i6s e2 (by omega)).1, l64n e4 (by omega)]; grind
  · rw [if_neg c, if_neg c, if_neg c]
    by_cases d : 0 < DX
    · rw [if_pos d, if_pos d, if_pos d, (i6s e1 (by omega)).2, e3]
    · rw [if_neg d, if_neg d, if_neg d, (i6s e1 (by omega)).1, l64n e3 (by omega)]; grind
theorem spa_v (hB : bm5_ bx by1 bdx bdy AX AY DX DY) : 0 < (spa_ bdx bdy).toInt ∧ (spa_ bdx bdy).toInt ≤ 4000000000 := by
  obtain ⟨e1, e2, e3, e4, b1, b2, b3, b4, b5⟩ := hB
  unfold spa_
  have z3 := l0_ bdx; have z4 := l0_ bdy
  rw [e3] at z3; rw [e4] at z4
  simp only [z3.2.2.1, z3.1, z4.1]
  split
  · split
    · rw [e4]; omega
    · rw [l64n e4 (by omega)]; omega
  · split
    · rw [e3]; omega
    · rw [l64n e3 (by omega)]; omega
theorem en2_0 : en2_ 0 0 = 0 := by decide
/-- one segment -/
theorem csg_ok (hB : bm5_ bx by1 bdx bdy AX AY DX DY) (hks : ks = 0 ∨ ks = 64) (hD : 0 < D) (hN : 0 ≤ N) (hND : N ≤ D) {q : Nat × Nat} (r1 : r5_ (xs q.1)) (r2 : r5_ (ys q.1)) (r3 : r5_ (xs q.2)) (r4 : r5_ (ys q.2)) (tu : Int32) :
    cbt_ tu (sid_ bx by1 bdx bdy (xs q.1) (ys q.1)) (sid_ bx by1 bdx bdy (xs q.2) (ys q.2)) (rea_ bx by1 (xs q.1) (ys q.1) (xs q.2) (ys q.2)) ^^^ xz_ (cle3 N D) (csg_ ks bx by1 bdx bdy xs ys q) = tu ^^^ en2_ (clq_ xs ys AX AY DX DY N D q) (crq_ xs ys AX AY DX DY N D q) ∧
    gz_ (cle3 N D) (csg_ ks bx by1 bdx bdy xs ys q) = nI (cdq_ xs ys AX AY DX DY N D q) ∧
    ((∃ c ∈ csg_ ks bx by1 bdx bdy xs ys q, ceq3 N D c = true) → onq_ xs ys AX AY DX DY N D q = 1) ∧
    (onq_ xs ys AX AY DX DY N D q = 1 → (∃ c ∈ csg_ ks bx by1 bdx bdy xs ys q, ceq3 N D c = true) ∨ cdq_ xs ys AX AY DX DY N D q = 1) ∧
    (cdq_ xs ys AX AY DX DY N D q = 1 → onq_ xs ys AX AY DX DY N D q = 1) ∧
    (∀ c ∈ csg_ ks bx by1 bdx bdy xs ys q, cvd_ c) := by
  obtain ⟨a, ea⟩ : ∃ z, z = DX * ((ys q.1).toInt - AY) - DY * ((xs q.1).toInt - AX) := ⟨_, rfl⟩
  obtain ⟨b, eb⟩ : ∃ z, z = DX * ((ys q.2).toInt - AY) - DY * ((xs q.2).toInt - AX) := ⟨_, rfl⟩
  obtain ⟨o, eo⟩ : ∃ z, z = ((xs q.1).toInt - AX) * ((ys q.2).toInt - (ys q.1).toInt) - ((ys q.1).toInt - AY) * ((xs q.2).toInt - (xs q.1).toInt) := ⟨_, rfl⟩
  have ha := sid_v hB r1 r2; have hb := sid_v hB r3 r4; have ho := rea_v hB r1 r2 r3 r4
  rw [← ea] at ha; rw [← eb] at hb; rw [← eo] at ho
  have hba : -2000000000000000000 ≤ b - a ∧ b - a ≤ 2000000000000000000 := by
    obtain ⟨-, -, -, -, -, -, b3, b4, -⟩ := hB
    unfold r5_ at r1 r2 r3 r4
    have e : b - a = DX * ((ys q.2).toInt - (ys q.1).toInt) - DY * ((xs q.2).toInt - (xs q.1).toInt) := by rw [ea, eb]; grind
    have m1 := mB_ (x := DX) (y := (ys q.2).toInt - (ys q.1).toInt) (B := 1000000000) (C := 1000000000) (by omega) (by omega) (by omega) (by omega)
    have m2 := mB_ (x := DY) (y := (xs q.2).toInt - (xs q.1).toInt) (B := 1000000000) (C := 1000000000) (by omega) (by omega) (by omega) (by omega)
    omega
  have sa : sdp_ xs ys AX AY DX DY N D q.1 = D * a := by unfold sdp_ rv_; rw [ea]; grind
  have sb : sdp_ xs ys AX AY DX DY N D q.2 = D * b := by unfold sdp_ rv_; rw [eb]; grind
  have sk : kvq_ xs ys AX AY DX DY N D q = D * (D * o - N * (b - a)) := by unfold kvq_ kv_ rv_; rw [eo, ea, eb]; grind
  have hcl : clq_ xs ys AX AY DX DY N D q = CL_ a b (D * o - N * (b - a)) ∧ crq_ xs ys AX AY DX DY N D q = CR_ a b (D * o - N * (b - a)) := by
    unfold clq_ crq_; rw [sa, sb, sk]; exact CL_s hD
  have pa := pl0p (x := a) hD; have pb := pl0p (x := b) hD
  have za := alo_v (N := N) (D := D) hB (px := xs q.1) (py := ys q.1)
  have zb := alo_v (N := N) (D := D) hB (px := xs q.2) (py := ys q.2)
  have hd := hB.2.2.2.2.2.2.2.2
  rw [hcl.1, hcl.2]
  have a0 : sdp_ xs ys AX AY DX DY N D q.1 = 0 ↔ a = 0 := by rw [sa]; omega
  have b0 : sdp_ xs ys AX AY DX DY N D q.2 = 0 ↔ b = 0 := by rw [sb]; omega
  unfold csg_
  by_cases hc : (0 < a ↔ 0 < b) ∧ (a < 0 ↔ b < 0)
  · by_cases h0 : a = 0
    · have hb0 : b = 0 := by omega
      obtain ⟨k1, k2, k3, k4, k5, k6, k7⟩ := cq_c (o64 := rea_ bx by1 (xs q.1) (ys q.1) (xs q.2) (ys q.2)) (x64 := alo_ bx by1 bdx bdy (xs q.1) (ys q.1)) (y64 := alo_ bx by1 bdx bdy (xs q.2) (ys q.2)) (s64 := spa_ bdx bdy) (tu := tu) hks (by rw [ha.1]; exact h0) (by rw [hb.1]; exact hb0) rfl rfl rfl (spa_v hB) hD hN hND
      have ecd : cd_ N D (spa_ bdx bdy).toInt (alo_ bx by1 bdx bdy (xs q.1) (ys q.1)).toInt (alo_ bx by1 bdx bdy (xs q.2) (ys q.2)).toInt ↔ cdq_ xs ys AX AY DX DY N D q = 1 := by
        unfold cd_ cdq_ ztp_; rw [pn_1, za, zb, a0, b0]
        exact ⟨fun h => ⟨h0, hb0, h⟩, fun h => h.2.2⟩
      have eon : onq_ xs ys AX AY DX DY N D q = 1 ↔ _ := onB (dx := DX) (dy := DY) hd (a0.mpr h0) (b0.mpr hb0)
      rw [za, zb] at k5 k6
      refine ⟨?_, ?_, fun h => eon.mpr (k5 h), fun h => ?_, fun h => ?_, k7⟩
      · rw [k1, k2, h0, hb0, (k3 _).1, (k3 _).2, en2_0]
      · rcases k4 with ⟨w, k⟩ | ⟨w, k⟩
        · rw [k, ecd.mp w]; rfl
        · have : cdq_ xs ys AX AY DX DY N D q = 0 := by
            rcases pn_01 (c := sdp_ xs ys AX AY DX DY N D q.1 = 0 ∧ sdp_ xs ys AX AY DX DY N D q.2 = 0 ∧ (ztp_ xs ys AX AY DX DY N D q.1 ≤ 0 ∨ ztp_ xs ys AX AY DX DY N D q.2 ≤ 0) ∧ (0 < ztp_ xs ys AX AY DX DY N D q.1 ∨ 0 < ztp_ xs ys AX AY DX DY N D q.2) ∧ N < D) with z | z
            · exact absurd (ecd.mpr z.2) w
            · exact z.2
          rw [k, this]; rfl
      · rcases k6 (eon.mp h) with z | z
        · exact Or.inl z
        · exact Or.inr (ecd.mp z)
      · rw [eon]
        obtain ⟨-, -, z1, z2, -⟩ := pn_1.mp h
        unfold ztp_ at z1 z2
        omega
    · obtain ⟨k1, k2, k3⟩ := cq_s (ks := ks) (o64 := rea_ bx by1 (xs q.1) (ys q.1) (xs q.2) (ys q.2)) (x64 := alo_ bx by1 bdx bdy (xs q.1) (ys q.1)) (y64 := alo_ bx by1 bdx bdy (xs q.2) (ys q.2)) (s64 := spa_ bdx bdy) (tu := tu) ha.1 hb.1 hc h0
      rw [k1, k2, (k3 _).1, (k3 _).2]
      have no : ¬ onq_ xs ys AX AY DX DY N D q = 1 := onA (dx := DX) (dy := DY) (by
        have e1 : DX * rv_ AY DY N D (ys q.1).toInt - DY * rv_ AX DX N D (xs q.1).toInt = D * a := sa
        have e2 : DX * rv_ AY DY N D (ys q.2).toInt - DY * rv_ AX DX N D (xs q.2).toInt = D * b := sb
        rw [e1, e2]; omega)
      have nc : ¬ cdq_ xs ys AX AY DX DY N D q = 1 := fun h => h0 (a0.mp (pn_1.mp h).1)
      have nc0 : cdq_ xs ys AX AY DX DY N D q = 0 := by unfold cdq_ at nc ⊢; exact pn_n (fun z => nc (pn_1.mpr z))
      exact ⟨by rw [xz_, en2_0], by rw [nc0]; rfl, fun ⟨c, h, _⟩ => absurd h (by simp), fun h => absurd h no, fun h => absurd h nc, fun c h => absurd h (by simp)⟩
  · obtain ⟨k1, k2, k3, k4⟩ := cq_x (x64 := alo_ bx by1 bdx bdy (xs q.1) (ys q.1)) (y64 := alo_ bx by1 bdx bdy (xs q.2) (ys q.2)) (s64 := spa_ bdx bdy) (tu := tu) hks ha.1 hb.1 ho.1 hba ho.2 hD hN hND hc
    have eon : onq_ xs ys AX AY DX DY N D q = 1 ↔ D * o - N * (b - a) = 0 := by
      have z : onq_ xs ys AX AY DX DY N D q = 1 ↔ kvq_ xs ys AX AY DX DY N D q = 0 := onC (dx := DX) (dy := DY) (by
        have e1 : DX * rv_ AY DY N D (ys q.1).toInt - DY * rv_ AX DX N D (xs q.1).toInt = D * a := sa
        have e2 : DX * rv_ AY DY N D (ys q.2).toInt - DY * rv_ AX DX N D (xs q.2).toInt = D * b := sb
        rw [e1, e2, pa.1, pa.2, pb.1, pb.2]; exact hc)
      rw [z, sk]
      have := pl0p (x := D * o - N * (b - a)) hD
      omega
    have nc : ¬ cdq_ xs ys AX AY DX DY N D q = 1 := fun h => by
      have z1 := a0.mp (pn_1.mp h).1; have z2 := b0.mp (pn_1.mp h).2.1
      omega
    have nc0 : cdq_ xs ys AX AY DX DY N D q = 0 := by unfold cdq_ at nc ⊢; exact pn_n (fun z => nc (pn_1.mpr z))
    exact ⟨k1, by rw [k2, nc0]; rfl, fun h => eon.mpr (k3.mp h), fun h => Or.inl (k3.mpr (eon.mp h)), fun h => absurd h nc, k4⟩
end
section
variable {xs ys : Nat → Int32} {bx by1 bdx bdy : Int64} {AX AY DX DY N D : Int} {ks : Int32}
def rS_ (xs ys : Nat → Int32) (S : List (Nat × Nat)) : Prop := ∀ q ∈ S, r5_ (xs q.1) ∧ r5_ (ys q.1) ∧ r5_ (xs q.2) ∧ r5_ (ys q.2)
theorem x5_ {F a b c eS eq tu : Int32} (k1 : c ^^^ a = tu ^^^ eq) (i1 : F ^^^ b = c ^^^ eS) : F ^^^ (a ^^^ b) = tu ^^^ (eq ^^^ eS) := by
  rw [Int32.xor_comm a b, ← Int32.xor_assoc, i1, Int32.xor_assoc, Int32.xor_comm eS a, ← Int32.xor_assoc, k1, Int32.xor_assoc]
theorem ctu_g (hB : bm5_ bx by1 bdx bdy AX AY DX DY) (hks : ks = 0 ∨ ks = 64) (hD : 0 < D) (hN : 0 ≤ N) (hND : N ≤ D) : ∀ (S : List (Nat × Nat)) (tu : Int32), rS_ xs ys S →
    S.foldl (fun t q => cbt_ t (sid_ bx by1 bdx bdy (xs q.1) (ys q.1)) (sid_ bx by1 bdx bdy (xs q.2) (ys q.2)) (rea_ bx by1 (xs q.1) (ys q.1) (xs q.2) (ys q.2))) tu ^^^ xz_ (cle3 N D) (S.flatMap (csg_ ks bx by1 bdx bdy xs ys)) = tu ^^^ en2_ (sm_ (clq_ xs ys AX AY DX DY N D) S) (sm_ (crq_ xs ys AX AY DX DY N D) S) ∧
    gz_ (cle3 N D) (S.flatMap (csg_ ks bx by1 bdx bdy xs ys)) = nI (sm_ (cdq_ xs ys AX AY DX DY N D) S)
  | [], tu, _ => ⟨by rw [List.foldl_nil, List.flatMap_nil, xz_, sm_, sm_, en2_0], rfl⟩
  | q :: S, tu, h => by
    obtain ⟨r1, r2, r3, r4⟩ := h q (List.mem_cons_self ..)
    obtain ⟨k1, k2, -⟩ := csg_ok (xs := xs) (ys := ys) (q := q) hB hks hD hN hND r1 r2 r3 r4 tu
    obtain ⟨i1, i2⟩ := ctu_g hB hks hD hN hND S (cbt_ tu (sid_ bx by1 bdx bdy (xs q.1) (ys q.1)) (sid_ bx by1 bdx bdy (xs q.2) (ys q.2)) (rea_ bx by1 (xs q.1) (ys q.1) (xs q.2) (ys q.2))) (fun z hz => h z (List.mem_cons_of_mem _ hz))
    rw [List.foldl_cons, List.flatMap_cons, xz_a, gz_a, sm_, sm_, sm_, ← en2_x, k2, i2, nI_add]
    refine ⟨?_, rfl⟩
    exact x5_ k1 i1
theorem met_g (hB : bm5_ bx by1 bdx bdy AX AY DX DY) (hks : ks = 0 ∨ ks = 64) (hD : 0 < D) (hN : 0 ≤ N) (hND : N ≤ D) {S : List (Nat × Nat)} (h : rS_ xs ys S) :
    ((∃ c ∈ S.flatMap (csg_ ks bx by1 bdx bdy xs ys), ceq3 N D c = true) ∨ 0 < sm_ (cdq_ xs ys AX AY DX DY N D) S) ↔ 0 < sm_ (onq_ xs ys AX AY DX DY N D) S := by
  constructor
  · intro w
    rcases w with ⟨c, hc, e⟩ | w
    · obtain ⟨q, hq, hcq⟩ := List.mem_flatMap.mp hc
      obtain ⟨r1, r2, r3, r4⟩ := h q hq
      have k := (csg_ok (xs := xs) (ys := ys) (q := q) hB hks hD hN hND r1 r2 r3 r4 0).2.2.1 ⟨c, hcq, e⟩
      exact sm_g S q hq (by rw [k]; decide)
    · obtain ⟨q, hq, k⟩ := sm_0 S w
      obtain ⟨r1, r2, r3, r4⟩ := h q hq
      have k1 : cdq_ xs ys AX AY DX DY N D q = 1 := by unfold cdq_ at k ⊢; rcases pn_01 (c := sdp_ xs ys AX AY DX DY N D q.1 = 0 ∧ sdp_ xs ys AX AY DX DY N D q.2 = 0 ∧ (ztp_ xs ys AX AY DX DY N D q.1 ≤ 0 ∨ ztp_ xs ys AX AY DX DY N D q.2 ≤ 0) ∧ (0 < ztp_ xs ys AX AY DX DY N D q.1 ∨ 0 < ztp_ xs ys AX AY DX DY N D q.2) ∧ N < D) with z | z <;> omega
      have k2 := (csg_ok (xs := xs) (ys := ys) (q := q) hB hks hD hN hND r1 r2 r3 r4 0).2.2.2.2.1 k1
      exact sm_g S q hq (by rw [k2]; decide)
  · intro w
    obtain ⟨q, hq, k⟩ := sm_0 S w
    obtain ⟨r1, r2, r3, r4⟩ := h q hq
    have k1 : onq_ xs ys AX AY DX DY N D q = 1 := by
      unfold onq_ at k ⊢
      rcases on_01 (vx := rv_ AX DX N D (xs q.1).toInt) (vy := rv_ AY DY N D (ys q.1).toInt) (wx := rv_ AX DX N D (xs q.2).toInt) (wy := rv_ AY DY N D (ys q.2).toInt) with z | z
      · exact z
      · rw [z] at k; exact absurd k (Nat.lt_irrefl _)
    rcases (csg_ok (xs := xs) (ys := ys) (q := q) hB hks hD hN hND r1 r2 r3 r4 0).2.2.2.1 k1 with ⟨c, hc, e⟩ | z
    · exact Or.inl ⟨c, List.mem_flatMap.mpr ⟨q, hq, hc⟩, e⟩
    · exact Or.inr (sm_g S q hq (by rw [z]; decide))
/-- marks -/
theorem cmq_ok (hB : bm5_ bx by1 bdx bdy AX AY DX DY) (hks : ks = 0 ∨ ks = 64) (hD : 0 < D) (hN : 0 ≤ N) (hND : N ≤ D) {i : Nat} (r1 : r5_ (xs i)) (r2 : r5_ (ys i)) :
    (∀ p, xz_ p (cmq_ ks bx by1 bdx bdy xs ys i) = 0 ∧ gz_ p (cmq_ ks bx by1 bdx bdy xs ys i) = 0) ∧ ((∃ c ∈ cmq_ ks bx by1 bdx bdy xs ys i, ceq3 N D c = true) ↔ atp_ xs ys AX AY DX DY N D i = true) ∧ (∀ c ∈ cmq_ ks bx by1 bdx bdy xs ys i, cvd_ c) := by
  have ha := (sid_v hB r1 r2).1
  have za := alo_v (N := N) (D := D) hB (px := xs i) (py := ys i)
  have hs := spa_v hB
  have hd := hB.2.2.2.2.2.2.2.2
  obtain ⟨a, ea⟩ : ∃ z, z = DX * ((ys i).toInt - AY) - DY * ((xs i).toInt - AX) := ⟨_, rfl⟩
  have sa : DX * rv_ AY DY N D (ys i).toInt - DY * rv_ AX DX N D (xs i).toInt = D * a := by unfold rv_; rw [ea]; grind
  rw [← ea] at ha
  unfold cmq_ cmk_ atp_
  rw [decide_eq_true_eq]
  obtain ⟨A, eA⟩ : ∃ z, z = (alo_ bx by1 bdx bdy (xs i) (ys i)).toInt := ⟨_, rfl⟩
  obtain ⟨T, eT⟩ : ∃ z, z = (spa_ bdx bdy).toInt := ⟨_, rfl⟩
  rw [← eA, ← eT] at za
  rw [← eT] at hs
  have c0 : (sid_ bx by1 bdx bdy (xs i) (ys i) = 0 ∧ 0 ≤ alo_ bx by1 bdx bdy (xs i) (ys i) ∧ alo_ bx by1 bdx bdy (xs i) (ys i) ≤ spa_ bdx bdy) ↔ (a = 0 ∧ 0 ≤ A ∧ A ≤ T) := by
    rw [(l0_ _).2.2.1, ha, (l0_ _).2.2.2, Int64.le_iff_toInt_le, ← eA, ← eT]
  have hNT : 0 ≤ N * T := Int.mul_nonneg hN (by omega)
  have hDT : N * T ≤ D * T := Int.mul_le_mul_of_nonneg_right hND (by omega)
  have pA := pl0p (x := A) hD
  have pT := pl0p (x := T - A) hD
  have f1 : D * (T - A) = D * T - D * A := by grind
  rw [f1] at pT
  have fc : A * D = D * A := Int.mul_comm _ _
  by_cases c : a = 0 ∧ 0 ≤ A ∧ A ≤ T
  · rw [if_pos (c0.mpr c)]
    refine ⟨fun p => ⟨?_, ?_⟩, ?_, ?_⟩
    · rw [xz_, xz_]
      show (if _ then (ks ||| 2) &&& 48 else 0) ^^^ 0 = 0
      rw [(ks_b hks).2.2.1]; simp
    · rw [gz_, gz_]
      show (if _ then ga_ (ks ||| 2) else 0) + 0 = 0
      rw [(ks_b hks).2.2.2.2.2.1]; simp
    · have z0 := zt_0 (vx := rv_ AX DX N D (xs i).toInt) (vy := rv_ AY DY N D (ys i).toInt) hd (by rw [sa, c.1, Int.mul_zero])
      rw [← z0, ← za]
      constructor
      · rintro ⟨d, h1, h2⟩
        rw [List.mem_singleton.mp h1] at h2
        unfold ceq3 at h2
        rw [decide_eq_true_eq, ← eA, ← eT] at h2; omega
      · intro h
        refine ⟨_, List.mem_singleton.mpr rfl, ?_⟩
        unfold ceq3; rw [decide_eq_true_eq, ← eA, ← eT]; omega
    · intro d h1; rw [List.mem_singleton.mp h1]; exact cvd_i eA.symm eT.symm c.2.1 c.2.2 hs.1 (by omega)
  · rw [if_neg (fun h => c (c0.mp h))]
    refine ⟨fun p => ⟨rfl, rfl⟩, ⟨fun ⟨d, h, _⟩ => absurd h (by simp), fun h => ?_⟩, fun d h => absurd h (by simp)⟩
    have : D * a = 0 := by rw [← sa, h.1, h.2]; omega
    have a0 : a = 0 := by rcases Int.mul_eq_zero.mp this with q | q <;> omega
    have z0 := (zt_0 (vx := rv_ AX DX N D (xs i).toInt) (vy := rv_ AY DY N D (ys i).toInt) hd (by rw [sa, a0, Int.mul_zero])).mpr h
    rw [← za] at z0
    exact absurd ⟨a0, by omega, by omega⟩ c
def rM_ (xs ys : Nat → Int32) (M : List Nat) : Prop := ∀ i ∈ M, r5_ (xs i) ∧ r5_ (ys i)
theorem cmq_z (hB : bm5_ bx by1 bdx bdy AX AY DX DY) (hks : ks = 0 ∨ ks = 64) {p : CT3_ → Bool} : ∀ M : List Nat, rM_ xs ys M → xz_ p (M.flatMap (cmq_ ks bx by1 bdx bdy xs ys)) = 0 ∧ gz_ p (M.flatMap (cmq_ ks bx by1 bdx bdy xs ys)) = 0
  | [], _ => ⟨rfl, rfl⟩
  | i :: M, h => by
    obtain ⟨r1, r2⟩ := h i (List.mem_cons_self ..)
    have k := (cmq_ok (xs := xs) (ys := ys) (i := i) (N := 0) (D := 1) hB hks (by decide) (by decide) (by decide) r1 r2).1 p
    obtain ⟨i1, i2⟩ := cmq_z hB hks M (fun z hz => h z (List.mem_cons_of_mem _ hz))
    rw [List.flatMap_cons, xz_a, gz_a, k.1, k.2, i1, i2]; decide
theorem cmq_m (hB : bm5_ bx by1 bdx bdy AX AY DX DY) (hks : ks = 0 ∨ ks = 64) (hD : 0 < D) (hN : 0 ≤ N) (hND : N ≤ D) {M : List Nat} (h : rM_ xs ys M) : (∃ c ∈ M.flatMap (cmq_ ks bx by1 bdx bdy xs ys), ceq3 N D c = true) ↔ M.any (atp_ xs ys AX AY DX DY N D) = true := by
  rw [List.any_eq_true]
  constructor
  · rintro ⟨c, hc, e⟩
    obtain ⟨i, hi, hci⟩ := List.mem_flatMap.mp hc
    obtain ⟨r1, r2⟩ := h i hi
    exact ⟨i, hi, (cmq_ok (xs := xs) (ys := ys) (i := i) hB hks hD hN hND r1 r2).2.1.mp ⟨c, hci, e⟩⟩
  · rintro ⟨i, hi, e⟩
    obtain ⟨r1, r2⟩ := h i hi
    obtain ⟨c, hc, e2⟩ := (cmq_ok (xs := xs) (ys := ys) (i := i) hB hks hD hN hND r1 r2).2.1.mpr e
    exact ⟨c, List.mem_flatMap.mpr ⟨i, hi, hc⟩, e2⟩
/-- all cuts are as they should be -/
theorem ccl_v (hB : bm5_ bx by1 bdx bdy AX AY DX DY) (hks : ks = 0 ∨ ks = 64) {S : List (Nat × Nat)} {M : List Nat} (h : rS_ xs ys S) (hM : rM_ xs ys M) : ∀ c ∈ ccl_ ks bx by1 bdx bdy xs ys S M, cvd_ c := by
  intro c hc
  rcases List.mem_append.mp hc with k | k
  · obtain ⟨q, hq, hcq⟩ := List.mem_flatMap.mp k
    obtain ⟨r1, r2, r3, r4⟩ := h q hq
    exact (csg_ok (xs := xs) (ys := ys) (q := q) (N := 0) (D := 1) hB hks (by decide) (by decide) (by decide) r1 r2 r3 r4 0).2.2.2.2.2 c hcq
  · obtain ⟨i, hi, hci⟩ := List.mem_flatMap.mp k
    obtain ⟨r1, r2⟩ := hM i hi
    exact (cmq_ok (xs := xs) (ys := ys) (i := i) (N := 0) (D := 1) hB hks (by decide) (by decide) (by decide) r1 r2).2.2 c hci
theorem kb4 {ks : Int32} (h : ks = 0 ∨ ks = 64) {z : Int32} (hz : z = 0 ∨ z = 16 ∨ z = 32 ∨ z = 48 ∨ z = 4 ∨ z = 8) : ¬ ((ks ||| 1) ||| z) &&& 1 = 0 ∧ ((ks ||| 1) ||| z) &&& 2 = 0 ∧ ((ks ||| 1) ||| z) &&& 64 = ks := by
  rcases h with h | h <;> subst h <;> rcases hz with k | k | k | k | k | k <;> subst k <;> decide
theorem kb2 {ks : Int32} (h : ks = 0 ∨ ks = 64) : (ks ||| 2) &&& 1 = 0 ∧ ¬ (ks ||| 2) &&& 2 = 0 ∧ (ks ||| 2) &&& 64 = ks := by
  rcases h with h | h <;> subst h <;> decide
theorem tns_4 (a b : Int64) : tns_ a b = 0 ∨ tns_ a b = 16 ∨ tns_ a b = 32 ∨ tns_ a b = 48 := by
  unfold tns_
  by_cases h1 : tl_ a b = 0 <;> by_cases h2 : tr_ a b = 0
  · rw [if_pos h1, if_pos h2]; decide
  · rw [if_pos h1, if_neg h2]; decide
  · rw [if_neg h1, if_pos h2]; decide
  · rw [if_neg h1, if_neg h2]; decide
/-- bits: a segment's cut meets, a mark's cut is marked; whose they are -/
theorem csg_t {q : Nat × Nat} (hks : ks = 0 ∨ ks = 64) : ∀ c ∈ csg_ ks bx by1 bdx bdy xs ys q, ¬ c.2.2 &&& 1 = 0 ∧ c.2.2 &&& 2 = 0 ∧ c.2.2 &&& 64 = ks := by
  intro c hc
  unfold csg_ cbs_ at hc
  split at hc
  · split at hc
    · unfold cov_ at hc
      split at hc
      · rcases List.mem_cons.mp hc with e | e
        · rw [e]; exact kb4 hks (by decide)
        · rw [List.mem_singleton.mp e]; exact kb4 hks (by decide)
      · exact absurd hc (by simp)
    · exact absurd hc (by simp)
  · unfold cac_ at hc
    split at hc
    · rw [List.mem_singleton.mp hc]
      refine kb4 hks ?_
      split
      · rcases tns_4 (sid_ bx by1 bdx bdy (xs q.1) (ys q.1)) (sid_ bx by1 bdx bdy (xs q.2) (ys q.2)) with h | h | h | h <;> rw [h] <;> decide
      · exact Or.inl rfl
    · exact absurd hc (by simp)
theorem cmq_t {i : Nat} (hks : ks = 0 ∨ ks = 64) : ∀ c ∈ cmq_ ks bx by1 bdx bdy xs ys i, c.2.2 &&& 1 = 0 ∧ ¬ c.2.2 &&& 2 = 0 ∧ c.2.2 &&& 64 = ks := by
  intro c hc
  unfold cmq_ cmk_ at hc
  split at hc
  · rw [List.mem_singleton.mp hc]; exact kb2 hks
  · exact absurd hc (by simp)
end
