/-- beside a place: how often, what, and whether it has an area -/
def bsn_ (xs ys : Nat → Int32) (x0 y0 dx dy : Int64) (N D : Int) (L : List (Nat × Nat × Nat)) (s : Nat) (ot : Int32) : Nat := L.countP (cF_ xs ys x0 y0 dx dy N D s) % 2 + (if ot = 0 then 0 else L.countP (hF_ xs ys x0 y0 dx dy N D s))
def bsr_ (kd : Int32) (n : Nat) : Int32 := if kd < 3 then 2 else if n % 2 = 1 then 0 else 2
def bsh_ (kd : Int32) (n s : Nat) (ha : Nat → Int32) : Nat → Int32 := if kd < 3 then ha else if n % 2 = 1 then upd ha s 1 else ha
theorem t3_bsr {kd : Int32} {n : Nat} : t3_ (bsr_ kd n) := by
  unfold bsr_; split
  · exact t3_2
  · split
    · exact t3_0
    · exact t3_2
theorem t3_whr {kd : Int32} {xs ys : Nat → Int32} {x0 y0 dx dy : Int64} {N D : Int} {L : List (Nat × Nat × Nat)} {s P n : Nat} {sn : Nat → Nat} : t3_ (whr_ kd xs ys x0 y0 dx dy N D L s P n sn) := by
  unfold whr_
  repeat' split
  all_goals first | exact t3_0 | exact t3_1 | exact t3_2
/-- where a place is, of one shape -/
def wr_ (kn xs ys : Nat → Int32) (L : List (Nat × Nat × Nat)) (PA PT : Nat → Nat) (SN : Nat → Nat → Nat) (x0 y0 dx dy : Int64) (N D : Int) (s : Nat) : Int32 := whr_ (kn s) xs ys x0 y0 dx dy N D L s (PA s) (PT s) (SN s)
def mk0_ (kn xs ys : Nat → Int32) (L : List (Nat × Nat × Nat)) (PA PT : Nat → Nat) (SN : Nat → Nat → Nat) (x0 y0 dx dy : Int64) (N D : Int) (d : Int32) (mx : Nat → Int32) : Nat → Int32 :=
  rai_ mx (wr_ kn xs ys L PA PT SN x0 y0 dx dy N D 0) (wr_ kn xs ys L PA PT SN x0 y0 dx dy N D 1) d
def mkb_ (kn xs ys : Nat → Int32) (L : List (Nat × Nat × Nat)) (x0 y0 dx dy : Int64) (N D : Int) (ot : Int32) (mx : Nat → Int32) : Nat → Int32 :=
  rai_ mx (bsr_ (kn 0) (bsn_ xs ys x0 y0 dx dy N D L 0 ot)) (bsr_ (kn 1) (bsn_ xs ys x0 y0 dx dy N D L 1 ot)) 2
def mhb_ (kn xs ys : Nat → Int32) (L : List (Nat × Nat × Nat)) (x0 y0 dx dy : Int64) (N D : Int) (ot : Int32) (ha : Nat → Int32) : Nat → Int32 :=
  bsh_ (kn 1) (bsn_ xs ys x0 y0 dx dy N D L 1 ot) 1 (bsh_ (kn 0) (bsn_ xs ys x0 y0 dx dy N D L 0 ot) 0 ha)
def mdN_ (x y : Nat × Nat) : Int := (x.1 : Int) * y.2 + (y.1 : Int) * x.2
def mdD_ (x y : Nat × Nat) : Int := (x.2 : Int) * y.2 + (x.2 : Int) * y.2
theorem md_g {z : Nat → Int64} {x y : Nat × Nat} (hx : x.1 < 2 ^ 63 ∧ 0 < x.2 ∧ x.2 < 2 ^ 63) (hy : y.1 < 2 ^ 63 ∧ 0 < y.2 ∧ y.2 < 2 ^ 63) (h : gq_ z ((lN x.1).toInt * (lN y.2).toInt + (lN y.1).toInt * (lN x.2).toInt) ((lN x.2).toInt * (lN y.2).toInt + (lN x.2).toInt * (lN y.2).toInt)) : gq_ z (mdN_ x y) (mdD_ x y) := by
  rw [pk_lT hx.1, pk_lT hx.2.2, pk_lT hy.1, pk_lT hy.2.2] at h; exact h
theorem at_q {z : Nat → Int64} {x : Nat × Nat} (hx : x.1 < 2 ^ 63 ∧ 0 < x.2 ∧ x.2 < 2 ^ 63) (h : gq_ z (lN x.1).toInt (lN x.2).toInt) : gq_ z (x.1 : Int) (x.2 : Int) := by
  rw [pk_lT hx.1, pk_lT hx.2.2] at h; exact h
/-- one cut's marks -/
def cm_ (kn xs ys : Nat → Int32) (L : List (Nat × Nat × Nat)) (PA PT : Nat → Nat) (SN : Nat → Nat → Nat) (x0 y0 dx dy : Int64) (F : List (Nat × Nat)) (c : Nat) (mx : Nat → Int32) : Nat → Int32 :=
  if c + 1 < F.length then
    mkb_ kn xs ys L x0 y0 dx dy (mdN_ (F.getD c (0, 1)) (F.getD (c + 1) (0, 1))) (mdD_ (F.getD c (0, 1)) (F.getD (c + 1) (0, 1))) 1
      (mkb_ kn xs ys L x0 y0 dx dy (mdN_ (F.getD c (0, 1)) (F.getD (c + 1) (0, 1))) (mdD_ (F.getD c (0, 1)) (F.getD (c + 1) (0, 1))) 0
        (mk0_ kn xs ys L PA PT SN x0 y0 dx dy (mdN_ (F.getD c (0, 1)) (F.getD (c + 1) (0, 1))) (mdD_ (F.getD c (0, 1)) (F.getD (c + 1) (0, 1))) 1
          (mk0_ kn xs ys L PA PT SN x0 y0 dx dy ((F.getD c (0, 1)).1 : Int) ((F.getD c (0, 1)).2 : Int) 0 mx)))
  else mk0_ kn xs ys L PA PT SN x0 y0 dx dy ((F.getD c (0, 1)).1 : Int) ((F.getD c (0, 1)).2 : Int) 0 mx
def ch_ (kn xs ys : Nat → Int32) (L : List (Nat × Nat × Nat)) (x0 y0 dx dy : Int64) (F : List (Nat × Nat)) (c : Nat) (ha : Nat → Int32) : Nat → Int32 :=
  if c + 1 < F.length then
    mhb_ kn xs ys L x0 y0 dx dy (mdN_ (F.getD c (0, 1)) (F.getD (c + 1) (0, 1))) (mdD_ (F.getD c (0, 1)) (F.getD (c + 1) (0, 1))) 1
      (mhb_ kn xs ys L x0 y0 dx dy (mdN_ (F.getD c (0, 1)) (F.getD (c + 1) (0, 1))) (mdD_ (F.getD c (0, 1)) (F.getD (c + 1) (0, 1))) 0 ha)
  else ha
def sgm_ (kn xs ys : Nat → Int32) (L : List (Nat × Nat × Nat)) (PA PT : Nat → Nat) (SN : Nat → Nat → Nat) (x0 y0 dx dy : Int64) (F : List (Nat × Nat)) (mx : Nat → Int32) : Nat → (Nat → Int32)
  | 0 => mx
  | c + 1 => cm_ kn xs ys L PA PT SN x0 y0 dx dy F c (sgm_ kn xs ys L PA PT SN x0 y0 dx dy F mx c)
def sgh_ (kn xs ys : Nat → Int32) (L : List (Nat × Nat × Nat)) (x0 y0 dx dy : Int64) (F : List (Nat × Nat)) (ha : Nat → Int32) : Nat → (Nat → Int32)
  | 0 => ha
  | c + 1 => ch_ kn xs ys L x0 y0 dx dy F c (sgh_ kn xs ys L x0 y0 dx dy F ha c)
/-- the points' marks -/
def lkp_ (kn xs ys : Nat → Int32) (L : List (Nat × Nat × Nat)) (PA PT : Nat → Nat) (SN : Nat → Nat → Nat) (s : Nat) (mx : Nat → Int32) : Nat → (Nat → Int32)
  | 0 => mx
  | n + 1 => mk0_ kn xs ys L PA PT SN (xs (2048 * s + n)).toInt64 (ys (2048 * s + n)).toInt64 0 0 0 1 0 (lkp_ kn xs ys L PA PT SN s mx n)
def lkq_ (kn xs ys : Nat → Int32) (L : List (Nat × Nat × Nat)) (PA PT : Nat → Nat) (SN : Nat → Nat → Nat) (mx : Nat → Int32) : Nat → (Nat → Int32)
  | 0 => mx
  | s + 1 => lkp_ kn xs ys L PA PT SN s (lkq_ kn xs ys L PA PT SN mx s) (PT s)
/-- the segments' marks -/
def lks_ (kn xs ys : Nat → Int32) (L : List (Nat × Nat × Nat)) (PA PT : Nat → Nat) (SN : Nat → Nat → Nat) (mx : Nat → Int32) : Nat → (Nat → Int32)
  | 0 => mx
  | k + 1 => sgm_ kn xs ys L PA PT SN (xs (L.getD k (0, 0, 0)).1).toInt64 (ys (L.getD k (0, 0, 0)).1).toInt64 ((xs (L.getD k (0, 0, 0)).2.1).toInt64 - (xs (L.getD k (0, 0, 0)).1).toInt64) ((ys (L.getD k (0, 0, 0)).2.1).toInt64 - (ys (L.getD k (0, 0, 0)).1).toInt64) (rcu_ xs ys (L.getD k (0, 0, 0)).1 (L.getD k (0, 0, 0)).2.1 PT L) (lks_ kn xs ys L PA PT SN mx k) (rcu_ xs ys (L.getD k (0, 0, 0)).1 (L.getD k (0, 0, 0)).2.1 PT L).length
def lkh_ (kn xs ys : Nat → Int32) (L : List (Nat × Nat × Nat)) (PT : Nat → Nat) (ha : Nat → Int32) : Nat → (Nat → Int32)
  | 0 => ha
  | k + 1 => sgh_ kn xs ys L (xs (L.getD k (0, 0, 0)).1).toInt64 (ys (L.getD k (0, 0, 0)).1).toInt64 ((xs (L.getD k (0, 0, 0)).2.1).toInt64 - (xs (L.getD k (0, 0, 0)).1).toInt64) ((ys (L.getD k (0, 0, 0)).2.1).toInt64 - (ys (L.getD k (0, 0, 0)).1).toInt64) (rcu_ xs ys (L.getD k (0, 0, 0)).1 (L.getD k (0, 0, 0)).2.1 PT L) (lkh_ kn xs ys L PT ha k) (rcu_ xs ys (L.getD k (0, 0, 0)).1 (L.getD k (0, 0, 0)).2.1 PT L).length
theorem vz1_ : vp_nar .boolean 1 = 1 := by decide +kernel
theorem vz0_ : vp_nar .boolean 0 = 0 := by decide +kernel
