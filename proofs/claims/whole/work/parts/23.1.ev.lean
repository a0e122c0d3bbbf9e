/-! the words of the start that a throw needs -/
set_option maxRecDepth 100000 in
theorem evB_in : ∀ w ∈ evB_, w ∈ lw_tbl := by decide +kernel
set_option maxRecDepth 100000 in
theorem evS_in : ∀ q ∈ evS_, Cond.stringRef RX5 q.1 q.2 ∈ lw_tbl := by decide +kernel
set_option maxRecDepth 100000 in
theorem ev_9 : Cond.methodLinkNest RX5 9 yX3_init "ShapeRelator" ∈ lw_tbl := by decide +kernel
set_option maxRecDepth 100000 in
theorem ev_11 : Cond.methodLinkNest RX4 11 yX0_init "ShapeRelator" ∈ lw_tbl := by decide +kernel
set_option maxRecDepth 100000 in
theorem ev_20 : Cond.methodLinkNest RX4 20 yX2_init "ShapeRelator" ∈ lw_tbl := by decide +kernel
set_option maxRecDepth 100000 in
theorem ev_l1 : Cond.laysStatic Bundle.tN "UNASSIGNED_STACK" Bundle.steD ∈ lw_tbl := by decide +kernel
set_option maxRecDepth 100000 in
theorem ev_l2 : Cond.laysStatic Bundle.tN "SUPPRESSED_SENTINEL" Bundle.listD ∈ lw_tbl := by decide +kernel
set_option maxRecDepth 100000 in
theorem ev_in : Cond.initialized Bundle.tN ∈ lw_tbl := by decide +kernel
set_option maxRecDepth 100000 in
theorem ev_at {p : Program} {s : State} {m : MethodId} {meth : Method} {c : Code} {b L : Nat} {xs : Nat → Int32} (C0 : lw_At p s m meth c b L xs) : ev_ (fun q : Nat => s.heap.size ≤ q) s := by
  obtain ⟨-, -, -, -, -, htl, -, -, -, hgv⟩ := C0
  have hn := flat_of_before _ hgv
  exact ev_of (evT_of (fun w hw => htl w (evB_in w hw)) (fun q hq => htl _ (evS_in q hq)) (htl _ ev_9) (htl _ ev_11) (htl _ ev_20) (hn _ (by decide +kernel)) (hn _ (by decide +kernel)) (hn _ (by decide +kernel))) (htl _ ev_l1) (htl _ ev_l2) (htl _ ev_in) (hn _ (by decide +kernel)) (hn _ (by decide +kernel))
