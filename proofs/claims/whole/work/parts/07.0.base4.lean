def t3_ (x : Int32) : Prop := x = 0 ∨ x = 1 ∨ x = 2
theorem t3_0 : t3_ 0 := Or.inl rfl
theorem t3_1 : t3_ 1 := Or.inr (Or.inl rfl)
theorem t3_2 : t3_ 2 := Or.inr (Or.inr rfl)
theorem t3_i {a b : Int32} (ha : t3_ a) (hb : t3_ b) : vp_in (3 * a + b) 9 := by
  rcases ha with rfl | rfl | rfl <;> rcases hb with rfl | rfl | rfl <;> (unfold vp_in; decide)
def mat_ (mx : Nat → Int32) (a b : Int32) : Int32 := mx (3 * a + b).toNatClampNeg
def rai_ (mx : Nat → Int32) (a b d : Int32) : Nat → Int32 := if mat_ mx a b < d then upd mx (3 * a + b).toNatClampNeg d else mx
def hs_ (mx : Nat → Int32) (a b : Int32) : Int32 := if mat_ mx a b = -1 then 0 else 1
def dif_ (mx : Nat → Int32) (a : Int32) : Int32 := mx_ (mat_ mx a 0) (mx_ (mat_ mx a 1) (mat_ mx a 2))
def dis_ (mx : Nat → Int32) (b : Int32) : Int32 := mx_ (mat_ mx 0 b) (mx_ (mat_ mx 1 b) (mat_ mx 2 b))
def hcp_ (mx : Nat → Int32) : Int32 := if hs_ mx 0 0 = 0 ∧ hs_ mx 0 1 = 0 ∧ hs_ mx 1 0 = 0 ∧ hs_ mx 1 1 = 0 then 0 else 1
def fls_ (mx : Nat → Int32) : Int32 := if hs_ mx 0 2 = 0 ∧ hs_ mx 1 2 = 0 then 0 else 1
def slf_ (mx : Nat → Int32) : Int32 := if hs_ mx 2 0 = 0 ∧ hs_ mx 2 1 = 0 then 0 else 1
def aeq_ (mx : Nat → Int32) : Int32 := if (dif_ mx 0 = -1 ∧ dis_ mx 0 = -1) ∨ (¬ hs_ mx 0 0 = 0 ∧ fls_ mx = 0 ∧ slf_ mx = 0) then 1 else 0
def dcr_ (mx : Nat → Int32) : Int32 := if dis_ mx 0 ≤ dif_ mx 0 then (if dif_ mx 0 ≤ dis_ mx 0 then (if dif_ mx 0 = 1 ∧ mat_ mx 0 0 = 0 then 1 else 0) else (if hs_ mx 0 0 = 0 ∨ hs_ mx 2 0 = 0 then 0 else 1)) else (if hs_ mx 0 0 = 0 ∨ hs_ mx 0 2 = 0 then 0 else 1)
def dov_ (mx : Nat → Int32) : Int32 := if ¬ dif_ mx 0 = -1 ∧ dif_ mx 0 = dis_ mx 0 ∧ mat_ mx 0 0 = dif_ mx 0 ∧ ¬ hs_ mx 0 2 = 0 ∧ ¬ hs_ mx 2 0 = 0 then 1 else 0
