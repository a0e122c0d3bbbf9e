theorem t3_w {v : Int32} (h : ¬ wi_ v 0 2 = 0) : t3_ v := by
  unfold wi_ at h
  by_cases q : 0 ≤ v ∧ v ≤ 2
  · rw [Int32.le_iff_toInt_le, Int32.le_iff_toInt_le] at q
    have a : (0 : Int32).toInt = 0 := by decide
    have b : (1 : Int32).toInt = 1 := by decide
    have c : (2 : Int32).toInt = 2 := by decide
    rw [a, c] at q
    rcases (show v.toInt = 0 ∨ v.toInt = 1 ∨ v.toInt = 2 by omega) with k | k | k
    · exact Or.inl (Int32.toInt_inj.mp (by rw [k, a]))
    · exact Or.inr (Or.inl (Int32.toInt_inj.mp (by rw [k, b])))
    · exact Or.inr (Or.inr (Int32.toInt_inj.mp (by rw [k, c])))
  · rw [if_neg q] at h; exact absurd rfl h
theorem sh_w {v : Int32} (h : ¬ wi_ v 0 1 = 0) : ∃ sh, sh < 2 ∧ v = nI sh := by
  unfold wi_ at h
  by_cases q : 0 ≤ v ∧ v ≤ 1
  · rw [Int32.le_iff_toInt_le, Int32.le_iff_toInt_le] at q
    have a : (0 : Int32).toInt = 0 := by decide
    have b : (1 : Int32).toInt = 1 := by decide
    rw [a, b] at q
    rcases (show v.toInt = 0 ∨ v.toInt = 1 by omega) with k | k
    · exact ⟨0, by decide, Int32.toInt_inj.mp (by rw [k]; decide)⟩
    · exact ⟨1, by decide, Int32.toInt_inj.mp (by rw [k]; decide)⟩
  · rw [if_neg q] at h; exact absurd rfl h
def isq_ (w : Int32) (mx : Nat → Int32) (d e : Int32) : Int32 :=
  if w = 0 then (if (¬ 0 ≤ d ∧ e < 0) ∨ (¬ thr_ mx 0 0 = 0 ∧ ¬ non_ mx 2 5 = 0 ∧ ¬ non_ mx 6 7 = 0) then 1 else 0)
  else if w = 1 then (if mee_ mx = 0 then 1 else 0)
  else if w = 2 then (if thr_ mx 0 0 = 0 ∧ ¬ mee_ mx = 0 then 1 else 0)
  else if w = 3 then crg_ mx d e
  else if w = 4 then (if ¬ thr_ mx 0 0 = 0 ∧ ¬ non_ mx 2 5 = 0 then 1 else 0)
  else if w = 5 then (if ¬ thr_ mx 0 0 = 0 ∧ ¬ non_ mx 6 7 = 0 then 1 else 0)
  else if w = 6 then (if d = e ∧ ¬ d < 0 ∧ mat_ mx 0 0 = d ∧ ¬ thr_ mx 0 2 = 0 ∧ ¬ thr_ mx 2 0 = 0 then 1 else 0)
  else if w = 7 then (if ¬ mee_ mx = 0 ∧ ¬ non_ mx 2 5 = 0 then 1 else 0)
  else (if ¬ mee_ mx = 0 ∧ ¬ non_ mx 6 7 = 0 then 1 else 0)
/-- what the reference does with its numbers -/
def shp_ (s kd : Int32) (kn pt pa : Nat → Int32) (r th2 : Int32) (kn2 pt2 pa2 : Nat → Int32) : Prop :=
  (wi_ s 0 1 = 0 → th2 = 1 ∧ kn2 = kn ∧ pt2 = pt ∧ pa2 = pa) ∧
  (¬ wi_ s 0 1 = 0 → wi_ kd 1 3 = 0 → th2 = 2 ∧ kn2 = kn ∧ pt2 = pt ∧ pa2 = pa) ∧
  (∀ sh, sh < 2 → s = nI sh → ¬ wi_ kd 1 3 = 0 → th2 = 0 ∧ r = pt sh ∧ kn2 = upd kn sh kd ∧ pt2 = upd pt sh 0 ∧ pa2 = upd pa sh 0)
def prt_ (s : Int32) (PT PA : Nat → Nat) (pa bg : Nat → Int32) (r th2 : Int32) (pa2 bg2 : Nat → Int32) : Prop :=
  (wi_ s 0 1 = 0 → th2 = 1 ∧ pa2 = pa ∧ bg2 = bg) ∧
  (∀ sh, sh < 2 → s = nI sh → (PA sh = 1024 → th2 = 2 ∧ pa2 = pa ∧ bg2 = bg) ∧ (¬ PA sh = 1024 → th2 = 0 ∧ r = nI (PA sh + 1) ∧ pa2 = upd pa sh (nI (PA sh + 1)) ∧ bg2 = upd bg (1025 * sh + PA sh) (nI (PT sh))))
def pnt_ (s x y : Int32) (PT PA : Nat → Nat) (pt xs ys : Nat → Int32) (r th2 : Int32) (pt2 xs2 ys2 : Nat → Int32) : Prop :=
  (wi_ s 0 1 = 0 → th2 = 1 ∧ pt2 = pt ∧ xs2 = xs ∧ ys2 = ys) ∧
  (¬ wi_ s 0 1 = 0 → (¬ far_ x = 0 ∨ ¬ far_ y = 0) → th2 = 2 ∧ pt2 = pt ∧ xs2 = xs ∧ ys2 = ys) ∧
  (∀ sh, sh < 2 → s = nI sh → far_ x = 0 → far_ y = 0 → ((PA sh = 0 ∨ PT sh = 2048) → th2 = 3 ∧ pt2 = pt ∧ xs2 = xs ∧ ys2 = ys) ∧
    (¬ (PA sh = 0 ∨ PT sh = 2048) → th2 = 0 ∧ r = nI (PT sh + 1) ∧ pt2 = upd pt sh (nI (PT sh + 1)) ∧ xs2 = upd xs (2048 * sh + PT sh) x ∧ ys2 = upd ys (2048 * sh + PT sh) y))
theorem sh_u {a b : Nat} (ha : a < 2) (hb : b < 2) (h : nI a = nI b) : a = b := (nI_eq (by omega) (by omega)).mp h
theorem wi_s {sh : Nat} (h : sh < 2) : ¬ wi_ (nI sh) 0 1 = 0 := by
  rcases (show sh = 0 ∨ sh = 1 by omega) with rfl | rfl <;> decide
