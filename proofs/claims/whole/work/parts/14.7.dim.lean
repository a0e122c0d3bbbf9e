/-! of what dimension the inside and the rim of a shape are -/
def pj_ (s : Nat) (x y : Int32) : Int32 := if s = 0 then x else y
def Dm_ (s : Nat) (m : Nat → Int32) (a : Int32) : Int32 := if s = 0 then dif_ m a else dis_ m a
section
variable {kn xs ys : Nat → Int32} {PA PT : Nat → Nat} {SN : Nat → Nat → Nat}
theorem Dm_v {m : Nat → Int32} {s : Nat} {a v : Int32} {mr : Nat → Int32} (hm : m = lkM_ kn xs ys SN PA PT mr) (ha : a = 0 ∨ a = 1) (hv : -1 ≤ v) (hu : ∀ x y d, reT_ kn xs ys SN PA PT x y d → pj_ s x y = a → d ≤ v) (hl : v = -1 ∨ ∃ x y d, reT_ kn xs ys SN PA PT x y d ∧ pj_ s x y = a ∧ v ≤ d) : Dm_ s m a = v := by
  subst hm
  have z : rz_ (reT_ kn xs ys SN PA PT) (upd (fil_ mr (-1) 9) 8 2) (lkM_ kn xs ys SN PA PT mr) := lkM_z
  unfold Dm_ pj_ at *
  by_cases h : s = 0
  · rw [if_pos h]
    simp only [if_pos h] at hu hl
    refine dif_v z (fun a b => m0_e) ha hv (fun y d ht => hu a y d ht rfl) (hl.imp id ?_)
    rintro ⟨x, y, d, h1, h2, h3⟩; rw [h2] at h1; exact ⟨y, d, h1, h3⟩
  · rw [if_neg h]
    simp only [if_neg h] at hu hl
    refine dis_v z (fun a b => m0_e) ha hv (fun x d ht => hu x a d ht rfl) (hl.imp id ?_)
    rintro ⟨x, y, d, h1, h2, h3⟩; rw [h2] at h1; exact ⟨x, d, h1, h3⟩
/-- where a place is -/
abbrev PL_ (kn xs ys : Nat → Int32) (SN : Nat → Nat → Nat) (PA PT : Nat → Nat) (X0 Y0 DX0 DY0 N0 D0 : Int) (s : Nat) : Int32 := wI_ (kn s) (sm_ (onq_ (xo_ xs s) (xo_ ys s) X0 Y0 DX0 DY0 N0 D0) (SS_ kn xs ys SN PA PT s)) ((MM_ kn xs ys SN PA PT s).any (atp_ (xo_ xs s) (xo_ ys s) X0 Y0 DX0 DY0 N0 D0)) (sm_ (cyq_ (xo_ xs s) (xo_ ys s) X0 Y0 DX0 DY0 N0 D0) (SS_ kn xs ys SN PA PT s))
theorem pj_2 {P : Nat → Int32} {x y : Int32} (h0 : x = P 0) (h1 : y = P 1) : ∀ s, s < 2 → pj_ s x y = P s := fun s hs => by
  unfold pj_
  rcases (show s = 0 ∨ s = 1 by omega) with e | e
  · subst e; rw [if_pos rfl]; exact h0
  · subst e; rw [if_neg (by decide)]; exact h1
theorem re_c (h : shs_ kn xs ys SN PA PT) {x y d : Int32} (ht : reT_ kn xs ys SN PA PT x y d) :
    (∃ X0 Y0 DX0 DY0 N0 D0 : Int, 0 < D0 ∧ (∀ s, s < 2 → pj_ s x y = PL_ kn xs ys SN PA PT X0 Y0 DX0 DY0 N0 D0 s) ∧ (d = 0 ∨ (d = 1 ∧ ∀ s, s < 2 → (MM_ kn xs ys SN PA PT s).any (atp_ (xo_ xs s) (xo_ ys s) X0 Y0 DX0 DY0 N0 D0) = false))) ∨
    (d = 2 ∧ ∃ w ∈ gat_ kn xs ys SN PA PT, ∃ c, c < (rcu_ xs ys w.1 w.2.1 PT (gat_ kn xs ys SN PA PT)).length ∧ c + 1 < (rcu_ xs ys w.1 w.2.1 PT (gat_ kn xs ys SN PA PT)).length ∧ ∃ ot : Int32, (ot = 0 ∨ ot = 1) ∧ ∀ s, s < 2 → pj_ s x y = bsr_ (kn s) (bsn_ xs ys (xs w.1).toInt64 (ys w.1).toInt64 ((xs w.2.1).toInt64 - (xs w.1).toInt64) ((ys w.2.1).toInt64 - (ys w.1).toInt64) (mdN_ ((rcu_ xs ys w.1 w.2.1 PT (gat_ kn xs ys SN PA PT)).getD c (0, 1)) ((rcu_ xs ys w.1 w.2.1 PT (gat_ kn xs ys SN PA PT)).getD (c + 1) (0, 1))) (mdD_ ((rcu_ xs ys w.1 w.2.1 PT (gat_ kn xs ys SN PA PT)).getD c (0, 1)) ((rcu_ xs ys w.1 w.2.1 PT (gat_ kn xs ys SN PA PT)).getD (c + 1) (0, 1))) (gat_ kn xs ys SN PA PT) s ot)) := by
  rcases ht with ⟨s, hs, i, hi, ht⟩ | ⟨w, hw, c, hc, ht⟩
  · obtain ⟨e1, e2, e3⟩ := (ptT_e h hs hi).mp ht
    exact Or.inl ⟨(xo_ xs s i).toInt, (xo_ ys s i).toInt, 0, 0, 0, 1, by decide, pj_2 e1 e2, Or.inl e3⟩
  · have hw2 := hw
    obtain ⟨s0, hs0, q0, hq0, e⟩ := (gat_m h).mp hw
    subst e
    rcases ht with ⟨e1, e2, e3⟩ | ⟨hk, ht⟩
    · have hf : (FF_ kn xs ys SN PA PT s0 q0).getD c (0, 1) ∈ FF_ kn xs ys SN PA PT s0 q0 := gd_m hc
      have f0 : (0 : Int) < ((FF_ kn xs ys SN PA PT s0 q0).getD c (0, 1)).2 := by have := (FF_p h hs0 hq0 _ hf).1; omega
      exact Or.inl ⟨_, _, _, _, _, _, f0, pj_2 (e1.trans (wr_q h hs0 hq0 f0 (by decide))) (e2.trans (wr_q h hs0 hq0 f0 (by decide))), Or.inl e3⟩
    · obtain ⟨hD, hN, hND, hno, all⟩ := FF_m h hs0 hq0 hk rfl rfl
      obtain ⟨n1, n2⟩ := no_f h hs0 hq0 hD hN (Int.le_of_lt hND) hno
      rcases ht with ⟨e1, e2, e3⟩ | ⟨e1, e2, e3⟩ | ⟨e1, e2, e3⟩
      · exact Or.inl ⟨_, _, _, _, _, _, hD, pj_2 (e1.trans (wr_q h hs0 hq0 hD (by decide))) (e2.trans (wr_q h hs0 hq0 hD (by decide))), Or.inr ⟨e3, n2⟩⟩
      · exact Or.inr ⟨e3, _, hw2, c, hc, hk, 0, Or.inl rfl, pj_2 (P := fun s => bsr_ (kn s) (bsn_ xs ys (xs (m3_ s0 q0).1).toInt64 (ys (m3_ s0 q0).1).toInt64 ((xs (m3_ s0 q0).2.1).toInt64 - (xs (m3_ s0 q0).1).toInt64) ((ys (m3_ s0 q0).2.1).toInt64 - (ys (m3_ s0 q0).1).toInt64) (mdN_ ((rcu_ xs ys (m3_ s0 q0).1 (m3_ s0 q0).2.1 PT (gat_ kn xs ys SN PA PT)).getD c (0, 1)) ((rcu_ xs ys (m3_ s0 q0).1 (m3_ s0 q0).2.1 PT (gat_ kn xs ys SN PA PT)).getD (c + 1) (0, 1))) (mdD_ ((rcu_ xs ys (m3_ s0 q0).1 (m3_ s0 q0).2.1 PT (gat_ kn xs ys SN PA PT)).getD c (0, 1)) ((rcu_ xs ys (m3_ s0 q0).1 (m3_ s0 q0).2.1 PT (gat_ kn xs ys SN PA PT)).getD (c + 1) (0, 1))) (gat_ kn xs ys SN PA PT) s 0)) e1 e2⟩
      · exact Or.inr ⟨e3, _, hw2, c, hc, hk, 1, Or.inr rfl, pj_2 (P := fun s => bsr_ (kn s) (bsn_ xs ys (xs (m3_ s0 q0).1).toInt64 (ys (m3_ s0 q0).1).toInt64 ((xs (m3_ s0 q0).2.1).toInt64 - (xs (m3_ s0 q0).1).toInt64) ((ys (m3_ s0 q0).2.1).toInt64 - (ys (m3_ s0 q0).1).toInt64) (mdN_ ((rcu_ xs ys (m3_ s0 q0).1 (m3_ s0 q0).2.1 PT (gat_ kn xs ys SN PA PT)).getD c (0, 1)) ((rcu_ xs ys (m3_ s0 q0).1 (m3_ s0 q0).2.1 PT (gat_ kn xs ys SN PA PT)).getD (c + 1) (0, 1))) (mdD_ ((rcu_ xs ys (m3_ s0 q0).1 (m3_ s0 q0).2.1 PT (gat_ kn xs ys SN PA PT)).getD c (0, 1)) ((rcu_ xs ys (m3_ s0 q0).1 (m3_ s0 q0).2.1 PT (gat_ kn xs ys SN PA PT)).getD (c + 1) (0, 1))) (gat_ kn xs ys SN PA PT) s 1)) e1 e2⟩
theorem sm_n {F : Nat × Nat → Nat} : sm_ F [] = 0 := rfl
/-- a line without segments has no marks at all -/
theorem mk2_n (h : shs_ kn xs ys SN PA PT) {s : Nat} (hs : s < 2) (hk : kn s = 2) (hS : SS_ kn xs ys SN PA PT s = []) {X0 Y0 DX0 DY0 N0 D0 : Int} (hD : 0 < D0) : (MM_ kn xs ys SN PA PT s).any (atp_ (xo_ xs s) (xo_ ys s) X0 Y0 DX0 DY0 N0 D0) = false := by
  unfold MM_ sM_
  unfold SS_ sS_ at hS
  rw [hk] at hS ⊢
  exact mk2_ (fun i j => atp_f) (fun i j => atp_g hD) (shr_s (h s hs)) (by have := (h s hs).2.2.2.2.1; omega) (fun q hq => by rw [hS] at hq; exact absurd hq (by simp))
theorem le_i {a b : Int32} (h : a.toInt ≤ b.toInt) : a ≤ b := Int32.le_iff_toInt_le.mpr h
/-- what a triple tells of one shape -/
theorem re_s (h : shs_ kn xs ys SN PA PT) {x y d : Int32} (ht : reT_ kn xs ys SN PA PT x y d) {s : Nat} (hs : s < 2) (ha : Nat → Int32) :
    (kn s = 1 → ¬ pj_ s x y = 1 ∧ (pj_ s x y = 0 → d = 0 ∧ 0 < PT s)) ∧
    (kn s = 2 → (pj_ s x y = 0 → (d = 0 ∨ d = 1) ∧ ¬ SS_ kn xs ys SN PA PT s = []) ∧ (pj_ s x y = 1 → d = 0 ∧ ¬ SS_ kn xs ys SN PA PT s = [])) ∧
    (kn s = 3 → (pj_ s x y = 0 → ¬ lkH_ kn xs ys SN PA PT ha s = 0) ∧ (pj_ s x y = 1 → (d = 0 ∨ d = 1) ∧ ¬ SS_ kn xs ys SN PA PT s = [])) ∧ (d = 0 ∨ d = 1 ∨ d = 2) := by
  have hh := h s hs
  have ff := shr_f hh
  rcases re_c h ht with ⟨X0, Y0, DX0, DY0, N0, D0, hD0, hp, hd⟩ | ⟨hd, w, hw, c, hc, hk, ot, hot, hp⟩
  · have e := hp s hs
    have d3 : d = 0 ∨ d = 1 ∨ d = 2 := by rcases hd with k | k
                                          · exact Or.inl k
                                          · exact Or.inr (Or.inl k.1)
    have d2 : d = 0 ∨ d = 1 := hd.imp id (fun k => k.1)
    refine ⟨fun k => ?_, fun k => ?_, fun k => ?_, d3⟩
    · rw [e]; unfold PL_ wI_; rw [if_pos k]
      by_cases m : (MM_ kn xs ys SN PA PT s).any (atp_ (xo_ xs s) (xo_ ys s) X0 Y0 DX0 DY0 N0 D0) = true
      · rw [if_pos m]
        refine ⟨by decide, fun _ => ⟨?_, ?_⟩⟩
        · rcases hd with z | z
          · exact z
          · rw [z.2 s hs] at m; exact absurd m (by decide)
        · obtain ⟨i, hi, _⟩ := List.any_eq_true.mp m
          have := MM_l h hs hi; omega
      · rw [if_neg m]; exact ⟨by decide, fun z => absurd z (by decide)⟩
    · have n1 : ¬ kn s = 1 := by rw [k]; decide
      rw [e]; unfold PL_ wI_; rw [if_neg n1, if_pos k]
      by_cases m : (MM_ kn xs ys SN PA PT s).any (atp_ (xo_ xs s) (xo_ ys s) X0 Y0 DX0 DY0 N0 D0) = true
      · rw [if_pos m]
        refine ⟨fun z => absurd z (by decide), fun _ => ⟨?_, fun z => ?_⟩⟩
        · rcases hd with z | z
          · exact z
          · rw [z.2 s hs] at m; exact absurd m (by decide)
        · rw [mk2_n h hs k z hD0] at m; exact absurd m (by decide)
      · rw [if_neg m]
        by_cases o : 0 < sm_ (onq_ (xo_ xs s) (xo_ ys s) X0 Y0 DX0 DY0 N0 D0) (SS_ kn xs ys SN PA PT s)
        · rw [if_pos o]; exact ⟨fun _ => ⟨d2, fun z => by rw [z, sm_n] at o; exact absurd o (Nat.lt_irrefl _)⟩, fun z => absurd z (by decide)⟩
        · rw [if_neg o]; exact ⟨fun z => absurd z (by decide), fun z => absurd z (by decide)⟩
    · have n1 : ¬ kn s = 1 := by rw [k]; decide
      have n2 : ¬ kn s = 2 := by rw [k]; decide
      rw [e]; unfold PL_ wI_; rw [if_neg n1, if_neg n2]
      by_cases o : 0 < sm_ (onq_ (xo_ xs s) (xo_ ys s) X0 Y0 DX0 DY0 N0 D0) (SS_ kn xs ys SN PA PT s)
      · rw [if_pos o]; exact ⟨fun z => absurd z (by decide), fun _ => ⟨d2, fun z => by rw [z, sm_n] at o; exact absurd o (Nat.lt_irrefl _)⟩⟩
      · rw [if_neg o]
        by_cases od : sm_ (cyq_ (xo_ xs s) (xo_ ys s) X0 Y0 DX0 DY0 N0 D0) (SS_ kn xs ys SN PA PT s) % 2 = 1
        · rw [if_pos od]
          refine ⟨fun _ => ?_, fun z => absurd z (by decide)⟩
          -- a place inside: somewhere an area lies beside a beam
          obtain ⟨x', y', hT, u0, -, u1, -⟩ := J_t h (fun t => decide (t = s)) (fun t htt => by rw [of_decide_eq_true htt]; exact k) hD0 (fun s2 h2 hu q hq z => by
            have e2 : s2 = s := of_decide_eq_true hu
            subst e2
            exact o (sm_g _ q hq (by rw [z]; decide))) hs (decide_eq_true rfl) od
          have b0 : bI_ (kn s) (sm_ (cyq_ (xo_ xs s) (xo_ ys s) X0 Y0 DX0 DY0 N0 D0) (SS_ kn xs ys SN PA PT s)) = 0 := by unfold bI_; rw [if_pos ⟨k, od⟩]
          have pz : pj_ s x' y' = 0 := by
            unfold pj_
            rcases (show s = 0 ∨ s = 1 by omega) with z | z
            · subst z; rw [if_pos rfl, u0 (decide_eq_true rfl), b0]
            · subst z; rw [if_neg (by decide), u1 (decide_eq_true rfl), b0]
          have hT2 : reT_ kn xs ys SN PA PT x' y' 2 := cl_re h (Or.inr hT)
          rcases re_c h hT2 with ⟨_, _, _, _, _, _, _, _, hd'⟩ | ⟨_, w, hw, c, hc, hk, ot, hot, hp'⟩
          · rcases hd' with z | z
            · exact absurd z (by decide)
            · exact absurd z.1 (by decide)
          · rw [lkH_v hs]
            refine ⟨w, hw, c, hc, hk, by rw [k]; decide, ot, hot, ?_⟩
            have e9 := hp' s hs
            rw [pz, k] at e9
            unfold bsr_ at e9
            rw [if_neg (show ¬ (3 : Int32) < 3 by decide)] at e9
            refine Decidable.byContradiction (fun z => ?_)
            rw [if_neg z] at e9; exact absurd e9 (by decide)
        · rw [if_neg od]; exact ⟨fun z => absurd z (by decide), fun z => absurd z (by decide)⟩
  · have e := hp s hs
    refine ⟨fun k => ?_, fun k => ?_, fun k => ?_, Or.inr (Or.inr hd)⟩
    · rw [e, k]; unfold bsr_; rw [if_pos (show (1 : Int32) < 3 by decide)]; exact ⟨by decide, fun z => absurd z (by decide)⟩
    · rw [e, k]; unfold bsr_; rw [if_pos (show (2 : Int32) < 3 by decide)]; exact ⟨fun z => absurd z (by decide), fun z => absurd z (by decide)⟩
    · rw [e, k]; unfold bsr_; rw [if_neg (show ¬ (3 : Int32) < 3 by decide)]
      split
      · rename_i od
        refine ⟨fun _ => ?_, fun z => absurd z (by decide)⟩
        rw [lkH_v hs]
        exact ⟨w, hw, c, hc, hk, by rw [k]; decide, ot, hot, od⟩
      · exact ⟨fun z => absurd z (by decide), fun z => absurd z (by decide)⟩
end
