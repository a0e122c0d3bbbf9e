/-- the place: N / D along the way, D above 0 -/
def gq_ (z : Nat → Int64) (N D : Int) : Prop := bg_ z 0 9 N ∧ bg_ z 1 9 D
theorem bg_w {z : Nat → Int64} {r L L2 : Nat} {v : Int} (h : bg_ z r L v) (hL : L ≤ L2) : bg_ z r L2 v := ⟨lm_w h.1 hL (Int.le_refl _), h.2⟩
theorem at_g {z : Nat → Int64} {o u : Int64} : gq_ (set_ (set_ z 0 o) 1 u) o.toInt u.toInt :=
  ⟨bg_w (bg_e set_b (fun j h1 h2 => set_f (by omega))) (by decide), bg_w set_b (by decide)⟩
/-- what sgn makes of the long numbers -/
def sgz_ (z : Nat → Int64) (a b : Int64) : Nat → Int64 := (stl_ (pro_ (pro_ (cl_ (set_ (set_ z 6 a) 7 b) (16 * 8) 16) 8 6 1 16) 8 7 0 16) (16 * 8) 16).1
theorem sgz_f {z : Nat → Int64} {a b : Int64} {j : Nat} (h : j < 96 ∨ 144 ≤ j) : sgz_ z a b j = z j := by
  unfold sgz_; rw [stl_f 16 j (by omega), pro_f 16 j (by omega) (by omega), pro_f 16 j (by omega) (by omega), cl_f (by omega), set_f (by omega), set_f (by omega)]
theorem sgz_v {z : Nat → Int64} {a b : Int64} {N D : Int} (h : gq_ z N D) : gq_ (sgz_ z a b) N D ∧ sof_ (sgz_ z a b) (16 * 8) = si_ (a.toInt * D + b.toInt * N) := by
  refine ⟨⟨bg_e h.1 (fun j h1 h2 => sgz_f (by omega)), bg_e h.2 (fun j h1 h2 => sgz_f (by omega))⟩, ?_⟩
  obtain ⟨C, eC⟩ : ∃ C, C = cl_ (set_ (set_ z 6 a) 7 b) (16 * 8) 16 := ⟨_, rfl⟩
  have c6 : bg_ C 6 4 a.toInt := bg_e set_b (fun j h1 h2 => by rw [eC, cl_f (by omega), set_f (by omega)])
  have c7 : bg_ C 7 4 b.toInt := bg_e (z := set_ (set_ z 6 a) 7 b) set_b (fun j h1 h2 => by rw [eC, cl_f (by omega)])
  have c0 : bg_ C 0 9 N := bg_e h.1 (fun j h1 h2 => by rw [eC, cl_f (by omega), set_f (by omega), set_f (by omega)])
  have c1 : bg_ C 1 9 D := bg_e h.2 (fun j h1 h2 => by rw [eC, cl_f (by omega), set_f (by omega), set_f (by omega)])
  have c8 : lm_ C (16 * 8) 12 0 := by rw [eC]; exact lm_w lm_c (by omega) (by omega)
  have v8 : vl_ C (16 * 8) 16 = 0 := by rw [eC]; exact vl_c
  obtain ⟨p1, l1⟩ := pro_v (r := 8) (a := 6) (b := 1) (Lr := 12) c6.1 c1.1 (by omega) (by omega) c8 (by decide) (by omega) (by omega) (by omega) 16 (by omega)
  obtain ⟨E, eE⟩ : ∃ E, E = pro_ C 8 6 1 16 := ⟨_, rfl⟩
  rw [← eE] at p1 l1
  have d7 : bg_ E 7 4 b.toInt := bg_e c7 (fun j h1 h2 => by rw [eE, pro_f 16 j (by omega) (by omega)])
  have d0 : bg_ E 0 9 N := bg_e c0 (fun j h1 h2 => by rw [eE, pro_f 16 j (by omega) (by omega)])
  obtain ⟨p2, l2⟩ := pro_v (r := 8) (a := 7) (b := 0) (Lr := 12) d7.1 d0.1 (by omega) (by omega) l1 (by decide) (by omega) (by omega) (by omega) 16 (by omega)
  have hb := stl_b (r := 8) (L := 12) (by omega) (lm_w l2 (Nat.le_refl _) (by decide))
  have e : sgz_ z a b = (stl_ (pro_ E 8 7 0 16) (16 * 8) 16).1 := by rw [eE, eC]; rfl
  rw [e, sof_b hb, p2, p1, v8, c6.2, c1.2, d7.2, d0.2, Int.zero_add]
def btw_ (z : Nat → Int64) (p q p2 q2 : Int64) : Nat → Int64 :=
  (stl_ (pro_ (pro_ (cl_ (stl_ (pro_ (pro_ (cl_ (set_ (set_ (set_ (set_ z 2 p) 3 q) 4 p2) 5 q2) (16 * 0) 16) 0 2 5 16) 0 4 3 16) (16 * 0) 16).1 (16 * 1) 16) 1 3 5 16) 1 3 5 16) (16 * 1) 16).1
theorem btw_v {z : Nat → Int64} {p q p2 q2 : Int64} : gq_ (btw_ z p q p2 q2) (p.toInt * q2.toInt + p2.toInt * q.toInt) (q.toInt * q2.toInt + q.toInt * q2.toInt) := by
  obtain ⟨Z, eZ⟩ : ∃ Z, Z = set_ (set_ (set_ (set_ z 2 p) 3 q) 4 p2) 5 q2 := ⟨_, rfl⟩
  have a2 : bg_ Z 2 4 p.toInt := bg_e (z := set_ z 2 p) set_b (fun j h1 h2 => by rw [eZ, set_f (by omega), set_f (by omega), set_f (by omega)])
  have a3 : bg_ Z 3 4 q.toInt := bg_e (z := set_ (set_ z 2 p) 3 q) set_b (fun j h1 h2 => by rw [eZ, set_f (by omega), set_f (by omega)])
  have a4 : bg_ Z 4 4 p2.toInt := bg_e (z := set_ (set_ (set_ z 2 p) 3 q) 4 p2) set_b (fun j h1 h2 => by rw [eZ, set_f (by omega)])
  have a5 : bg_ Z 5 4 q2.toInt := by rw [eZ]; exact set_b
  obtain ⟨C, eC⟩ : ∃ C, C = cl_ Z (16 * 0) 16 := ⟨_, rfl⟩
  have cc : ∀ {r : Nat} {v : Int}, 1 ≤ r → bg_ Z r 4 v → bg_ C r 4 v := fun hr h => bg_e h (fun j h1 h2 => by rw [eC, cl_f (by omega)])
  have l0 : lm_ C (16 * 0) 7 0 := by rw [eC]; exact lm_w lm_c (by omega) (by omega)
  have v0 : vl_ C (16 * 0) 16 = 0 := by rw [eC]; exact vl_c
  obtain ⟨p1, m1⟩ := pro_v (r := 0) (a := 2) (b := 5) (Lr := 7) (cc (by omega) a2).1 (cc (by omega) a5).1 (by omega) (by omega) l0 (by decide) (by omega) (by omega) (by omega) 16 (by omega)
  obtain ⟨E, eE⟩ : ∃ E, E = pro_ C 0 2 5 16 := ⟨_, rfl⟩
  rw [← eE] at p1 m1
  have ce : ∀ {r : Nat} {v : Int}, 1 ≤ r → bg_ Z r 4 v → bg_ E r 4 v := fun hr h => bg_e (cc hr h) (fun j h1 h2 => by rw [eE, pro_f 16 j (by omega) (by omega)])
  obtain ⟨p3, m3⟩ := pro_v (r := 0) (a := 4) (b := 3) (Lr := 7) (ce (by omega) a4).1 (ce (by omega) a3).1 (by omega) (by omega) m1 (by decide) (by omega) (by omega) (by omega) 16 (by omega)
  have hb := stl_b (r := 0) (L := 7) (by omega) (lm_w m3 (Nat.le_refl _) (by decide))
  obtain ⟨F, eF⟩ : ∃ F, F = (stl_ (pro_ E 0 4 3 16) (16 * 0) 16).1 := ⟨_, rfl⟩
  rw [← eF, p3, p1, v0, (cc (by omega) a2).2, (cc (by omega) a5).2, (ce (by omega) a4).2, (ce (by omega) a3).2, Int.zero_add] at hb
  have cf : ∀ {r : Nat} {v : Int}, 1 ≤ r → bg_ Z r 4 v → bg_ F r 4 v := fun hr h => bg_e (ce hr h) (fun j h1 h2 => by rw [eF, stl_f 16 j (by omega), pro_f 16 j (by omega) (by omega)])
  obtain ⟨G, eG⟩ : ∃ G, G = cl_ F (16 * 1) 16 := ⟨_, rfl⟩
  have cg : ∀ {r : Nat} {v : Int}, 2 ≤ r → bg_ Z r 4 v → bg_ G r 4 v := fun hr h => bg_e (cf (by omega) h) (fun j h1 h2 => by rw [eG, cl_f (by omega)])
  have lg : lm_ G (16 * 1) 7 0 := by rw [eG]; exact lm_w lm_c (by omega) (by omega)
  have vg : vl_ G (16 * 1) 16 = 0 := by rw [eG]; exact vl_c
  obtain ⟨p5, m5⟩ := pro_v (r := 1) (a := 3) (b := 5) (Lr := 7) (cg (by omega) a3).1 (cg (by omega) a5).1 (by omega) (by omega) lg (by decide) (by omega) (by omega) (by omega) 16 (by omega)
  obtain ⟨K, eK⟩ : ∃ K, K = pro_ G 1 3 5 16 := ⟨_, rfl⟩
  rw [← eK] at p5 m5
  have ck : ∀ {r : Nat} {v : Int}, 2 ≤ r → bg_ Z r 4 v → bg_ K r 4 v := fun hr h => bg_e (cg hr h) (fun j h1 h2 => by rw [eK, pro_f 16 j (by omega) (by omega)])
  obtain ⟨p6, m6⟩ := pro_v (r := 1) (a := 3) (b := 5) (Lr := 7) (ck (by omega) a3).1 (ck (by omega) a5).1 (by omega) (by omega) m5 (by decide) (by omega) (by omega) (by omega) 16 (by omega)
  have hc := stl_b (r := 1) (L := 7) (by omega) (lm_w m6 (Nat.le_refl _) (by decide))
  rw [p6, p5, vg, (cg (by omega) a3).2, (cg (by omega) a5).2, (ck (by omega) a3).2, (ck (by omega) a5).2, Int.zero_add] at hc
  have e : btw_ z p q p2 q2 = (stl_ (pro_ K 1 3 5 16) (16 * 1) 16).1 := by rw [eK, eG, eF, eE, eC, eZ]; rfl
  rw [e]
  exact ⟨bg_e hb (fun j h1 h2 => by rw [stl_f 16 j (by omega), pro_f 16 j (by omega) (by omega), eK, pro_f 16 j (by omega) (by omega), eG, cl_f (by omega)]), hc⟩
/-- how a place lies to a number of its own axis -/
def ovx_ (x0 dx : Int64) (N D : Int) (v : Int64) : Int32 := si_ ((x0 - v).toInt * D + dx.toInt * N)
def sdA_ (xs ys : Nat → Int32) (x0 y0 : Int64) (p q : Nat) : Int64 := ((xs q).toInt64 - (xs p).toInt64) * (y0 - (ys p).toInt64) - ((ys q).toInt64 - (ys p).toInt64) * (x0 - (xs p).toInt64)
def sdB_ (xs ys : Nat → Int32) (dx dy : Int64) (p q : Nat) : Int64 := ((xs q).toInt64 - (xs p).toInt64) * dy - ((ys q).toInt64 - (ys p).toInt64) * dx
def sde_ (xs ys : Nat → Int32) (x0 y0 dx dy : Int64) (N D : Int) (p q : Nat) : Int32 := si_ ((sdA_ xs ys x0 y0 p q).toInt * D + (sdB_ xs ys dx dy p q).toInt * N)
def isp_ (xs ys : Nat → Int32) (x0 y0 dx dy : Int64) (N D : Int) (p : Nat) : Int32 := if ovx_ x0 dx N D (xs p).toInt64 = 0 ∧ ovx_ y0 dy N D (ys p).toInt64 = 0 then 1 else 0
def iso_ (xs ys : Nat → Int32) (x0 y0 dx dy : Int64) (N D : Int) (p q : Nat) : Int32 :=
  if ¬ 0 < ovx_ x0 dx N D (xs p).toInt64 * ovx_ x0 dx N D (xs q).toInt64 ∧ ¬ 0 < ovx_ y0 dy N D (ys p).toInt64 * ovx_ y0 dy N D (ys q).toInt64 ∧ sde_ xs ys x0 y0 dx dy N D p q = 0 then 1 else 0
def crx_ (xs ys : Nat → Int32) (x0 y0 dx dy : Int64) (N D : Int) (p q : Nat) : Int32 :=
  if bo_ (ovx_ y0 dy N D (ys p).toInt64 < 0) = bo_ (ovx_ y0 dy N D (ys q).toInt64 < 0) then 0
  else if bo_ (ovx_ y0 dy N D (ys p).toInt64 < 0) = 0 then bo_ (0 < sde_ xs ys x0 y0 dx dy N D p q) else bo_ (0 < sde_ xs ys x0 y0 dx dy N D q p)
theorem bo_n {c : Prop} [Decidable c] : narrow .boolean (.int (bo_ c)) = .int (bo_ c) := by unfold bo_; split <;> decide +kernel
