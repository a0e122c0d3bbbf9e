/-! where a whole place is: the class's way of asking -/
theorem rv_1 (x X : Int) : rv_ x 0 0 1 X = X - x := by unfold rv_; omega
def pb_ (n : Nat) : Int32 := if n % 2 = 1 then 1 else 0
section
variable {xs ys : Nat → Int32} {x y : Int32}
theorem sos_v (rx : r5_ x) (ry : r5_ y) {q : Nat × Nat} (r1 : r5_ (xs q.1)) (r2 : r5_ (ys q.1)) (r3 : r5_ (xs q.2)) (r4 : r5_ (ys q.2)) : (sos_ xs ys q.1 q.2 x y).toInt = kvq_ xs ys x.toInt y.toInt 0 0 0 1 q := by
  unfold r5_ at *
  have e := (jd_ (i64e (xs q.2) (xs q.1)) (i64e y (ys q.1)) (i64e (ys q.2) (ys q.1)) (i64e x (xs q.1)) (by omega) (by omega) (by omega) (by omega)).1
  unfold sos_ kvq_ kv_
  rw [e, rv_1, rv_1, rv_1, rv_1]; grind
theorem inb_v {t h : Nat} : ¬ inb_ xs ys t h x y = 0 ↔ (¬ ((0 < (xs t).toInt - x.toInt ∧ 0 < (xs h).toInt - x.toInt) ∨ ((xs t).toInt - x.toInt < 0 ∧ (xs h).toInt - x.toInt < 0)) ∧ ¬ ((0 < (ys t).toInt - y.toInt ∧ 0 < (ys h).toInt - y.toInt) ∨ ((ys t).toInt - y.toInt < 0 ∧ (ys h).toInt - y.toInt < 0))) := by
  have m : ∀ a b : Int32, (mi_ a b).toInt = (if b.toInt < a.toInt then b.toInt else a.toInt) ∧ (mx_ a b).toInt = (if a.toInt < b.toInt then b.toInt else a.toInt) := fun a b => by
    unfold mi_ mx_
    constructor
    · by_cases q : b < a
      · rw [if_pos q, if_pos (Int32.lt_iff_toInt_lt.mp q)]
      · rw [if_neg q, if_neg (fun z => q (Int32.lt_iff_toInt_lt.mpr z))]
    · by_cases q : a < b
      · rw [if_pos q, if_pos (Int32.lt_iff_toInt_lt.mp q)]
      · rw [if_neg q, if_neg (fun z => q (Int32.lt_iff_toInt_lt.mpr z))]
  unfold inb_
  rw [if10, Int32.le_iff_toInt_le, Int32.le_iff_toInt_le, Int32.le_iff_toInt_le, Int32.le_iff_toInt_le, (m _ _).1, (m _ _).2, (m _ _).1, (m _ _).2]
  have g : ∀ a b c : Int, ((if b < a then b else a) ≤ c ↔ (a ≤ c ∨ b ≤ c)) ∧ (c ≤ (if a < b then b else a) ↔ (c ≤ a ∨ c ≤ b)) := fun a b c => by
    constructor
    · split <;> omega
    · split <;> omega
  rw [(g _ _ _).1, (g _ _ _).2, (g _ _ _).1, (g _ _ _).2]
  omega
theorem onq_v (rx : r5_ x) (ry : r5_ y) {q : Nat × Nat} (r1 : r5_ (xs q.1)) (r2 : r5_ (ys q.1)) (r3 : r5_ (xs q.2)) (r4 : r5_ (ys q.2)) : (sos_ xs ys q.1 q.2 x y = 0 ∧ ¬ inb_ xs ys q.1 q.2 x y = 0) ↔ onq_ xs ys x.toInt y.toInt 0 0 0 1 q = 1 := by
  have e := sos_v rx ry r1 r2 r3 r4
  unfold onq_
  rw [on_1, (l0_ _).2.2.1, e, inb_v, rv_1, rv_1, rv_1, rv_1]
  unfold kvq_ kv_
  rw [rv_1, rv_1, rv_1, rv_1]
theorem tog_v (rx : r5_ x) (ry : r5_ y) {q : Nat × Nat} (r1 : r5_ (xs q.1)) (r2 : r5_ (ys q.1)) (r3 : r5_ (xs q.2)) (r4 : r5_ (ys q.2)) (hn : ¬ onq_ xs ys x.toInt y.toInt 0 0 0 1 q = 1) (n : Nat) :
    tog_ (bo_ (y < ys q.2)) (bo_ (y < ys q.1)) (bo_ (0 < sos_ xs ys q.1 q.2 x y)) (pb_ n) = pb_ (n + cyq_ xs ys x.toInt y.toInt 0 0 0 1 q) := by
  have e := sos_v rx ry r1 r2 r3 r4
  have k := (l0_ (sos_ xs ys q.1 q.2 x y)).1
  rw [e] at k
  have l1 : y < ys q.1 ↔ 0 < rv_ y.toInt 0 0 1 (ys q.1).toInt := by rw [Int32.lt_iff_toInt_lt, rv_1]; omega
  have l2 : y < ys q.2 ↔ 0 < rv_ y.toInt 0 0 1 (ys q.2).toInt := by rw [Int32.lt_iff_toInt_lt, rv_1]; omega
  have hz : (¬ (0 < rv_ y.toInt 0 0 1 (ys q.1).toInt ↔ 0 < rv_ y.toInt 0 0 1 (ys q.2).toInt)) → ¬ kvq_ xs ys x.toInt y.toInt 0 0 0 1 q = 0 := fun hd hk => hn (by
    have h2 := onC (dx := 1) (dy := 0) (vx := rv_ x.toInt 0 0 1 (xs q.1).toInt) (vy := rv_ y.toInt 0 0 1 (ys q.1).toInt) (wx := rv_ x.toInt 0 0 1 (xs q.2).toInt) (wy := rv_ y.toInt 0 0 1 (ys q.2).toInt) (fun z => hd (by have := z.1; omega))
    exact h2.mpr hk)
  unfold cyq_ CL_
  generalize kvq_ xs ys x.toInt y.toInt 0 0 0 1 q = K at *
  generalize rv_ y.toInt 0 0 1 (ys q.1).toInt = vy at *
  generalize rv_ y.toInt 0 0 1 (ys q.2).toInt = wy at *
  have flip : (if pb_ n = 0 then (1 : Int32) else 0) = pb_ (n + 1) := by
    unfold pb_
    rcases (show n % 2 = 0 ∨ n % 2 = 1 by omega) with a | a
    · rw [Nat.add_mod, a]; decide
    · rw [Nat.add_mod, a]; decide
  unfold tog_
  by_cases c : 0 < vy ↔ 0 < wy
  · rw [if_pos (bo_e.mpr (by rw [l1, l2]; exact c.symm)), pn_n (by omega), Nat.add_zero]
  · rw [if_neg (fun z => c (by have := bo_e.mp z; rw [l1, l2] at this; exact this.symm))]
    have hz2 := hz c
    by_cases d : (0 < wy ↔ 0 < K)
    · rw [if_pos (bo_e.mpr (by rw [l2, k]; exact d)), flip, pn_y (by omega)]
    · rw [if_neg (fun z => d (by have := bo_e.mp z; rw [l2, k] at this; exact this)), pn_n (by omega), Nat.add_zero]
theorem wis_b {kd : Int32} (rx : r5_ x) (ry : r5_ y) : ∀ (S : List (Nat × Nat)) (n : Nat), rS_ xs ys S → wis_ kd xs ys x y S (pb_ n) = if 0 < sm_ (onq_ xs ys x.toInt y.toInt 0 0 0 1) S then pos_ kd else pof_ kd (pb_ (n + sm_ (cyq_ xs ys x.toInt y.toInt 0 0 0 1) S))
  | [], n, _ => by rw [wis_, sm_, sm_, if_neg (Nat.lt_irrefl _), Nat.add_zero]
  | q :: S, n, h => by
    obtain ⟨r1, r2, r3, r4⟩ := h q (List.mem_cons_self ..)
    have o := onq_v rx ry r1 r2 r3 r4
    rw [wis_, sm_, sm_]
    by_cases c : onq_ xs ys x.toInt y.toInt 0 0 0 1 q = 1
    · rw [if_pos (o.mpr c), if_pos (by omega)]
    · rw [if_neg (fun z => c (o.mp z)), tog_v rx ry r1 r2 r3 r4 c n, wis_b rx ry S _ (fun z hz => h z (List.mem_cons_of_mem _ hz))]
      have c0 : onq_ xs ys x.toInt y.toInt 0 0 0 1 q = 0 := by
        unfold onq_ at c ⊢
        rcases on_01 (vx := rv_ x.toInt 0 0 1 (xs q.1).toInt) (vy := rv_ y.toInt 0 0 1 (ys q.1).toInt) (wx := rv_ x.toInt 0 0 1 (xs q.2).toInt) (wy := rv_ y.toInt 0 0 1 (ys q.2).toInt) with w | w
        · exact absurd w c
        · exact w
      rw [c0, Nat.zero_add, Nat.add_assoc]
/-- the class's place -/
theorem whs_b {kd : Int32} {S : List (Nat × Nat)} {M : List Nat} (hF : fgr_ kd xs ys S M) (rx : r5_ x) (ry : r5_ y) (hl : M.length < 2 ^ 30) :
    whs_ kd xs ys S M x y = wI_ kd (sm_ (onq_ xs ys x.toInt y.toInt 0 0 0 1) S) (M.any (atp_ xs ys x.toInt y.toInt 0 0 0 1)) (sm_ (cyq_ xs ys x.toInt y.toInt 0 0 0 1) S) := by
  have hm : mfi_ xs ys x y M 0 = -1 ↔ ¬ M.any (atp_ xs ys x.toInt y.toInt 0 0 0 1) = true := by
    rw [mfi_n M 0 (by omega), List.any_eq_true]
    have e : ∀ p, atp_ xs ys x.toInt y.toInt 0 0 0 1 p = true ↔ (xs p = x ∧ ys p = y) := fun p => by
      unfold atp_; rw [decide_eq_true_eq, rv_1, rv_1]
      exact ⟨fun h => ⟨Int32.toInt_inj.mp (by omega), Int32.toInt_inj.mp (by omega)⟩, fun h => by rw [h.1, h.2]; omega⟩
    exact ⟨fun h ⟨p, h1, h2⟩ => h p h1 ((e p).mp h2), fun h p hp z => h ⟨p, hp, (e p).mpr z⟩⟩
  unfold whs_
  by_cases c : M.any (atp_ xs ys x.toInt y.toInt 0 0 0 1) = true
  · rw [if_neg (fun z => hm.mp z c), c]
    unfold pom_ wI_
    rcases hF.1 with e | e | e
    · subst e; simp
    · subst e; simp
    · rw [hF.2.2.1 e] at c; exact absurd c (by simp)
  · have c0 : M.any (atp_ xs ys x.toInt y.toInt 0 0 0 1) = false := by
      cases h : M.any (atp_ xs ys x.toInt y.toInt 0 0 0 1)
      · rfl
      · exact absurd h c
    rw [if_pos (hm.mpr c), c0]
    have w := wis_b (kd := kd) rx ry S 0 hF.2.2.2.2.1
    have p0 : pb_ 0 = 0 := by decide
    rw [p0, Nat.zero_add] at w
    rw [w]
    by_cases o : 0 < sm_ (onq_ xs ys x.toInt y.toInt 0 0 0 1) S
    · rw [if_pos o]
      unfold pos_ wI_
      rcases hF.1 with e | e | e
      · rw [hF.2.1 e] at o; exact absurd o (Nat.lt_irrefl _)
      · subst e; simp [o]
      · subst e; simp [o]
    · rw [if_neg o, show sm_ (onq_ xs ys x.toInt y.toInt 0 0 0 1) S = 0 by omega, wI_m hF.1]
      unfold pof_ bI_ pb_
      by_cases z : kd = 3 ∧ sm_ (cyq_ xs ys x.toInt y.toInt 0 0 0 1) S % 2 = 1
      · rw [if_pos z, if_pos ⟨z.1, by rw [if_pos z.2]; decide⟩]
      · rw [if_neg z, if_neg (fun w => z ⟨w.1, Decidable.byContradiction (fun q => w.2 (by rw [if_neg q]))⟩)]
end
