/-! at the law's entry: what a throw takes is there -/
theorem vk_1 {own tx : String} {k : Nat} {A : Array Value} {s : State} (h : (Cond.stringRef own k tx).before A s = true) : ∃ a, vk_R own k tx a s := by
  have hcur : ∃ cur, s.vm.findClass own = some cur := by
    have h1 := h
    simp only [Cond.before, Cond.holds, Cond.value] at h1
    cases hc : s.vm.findClass own with
    | none => simp [hc] at h1
    | some cur => exact ⟨cur, rfl⟩
  obtain ⟨cur, hcur⟩ := hcur
  obtain ⟨_, _, _, a, _, _, _, _, _, he⟩ := Cond.stringRef_spec hcur h
  exact ⟨a, vk_R.of h he⟩
theorem evT_of {A : Array Value} {s : State} (hB : ∀ w ∈ evB_, w.before A s = true) (hS : ∀ q ∈ evS_, (Cond.stringRef RX5 q.1 q.2).before A s = true)
    (h9 : (Cond.methodLinkNest RX5 9 yX3_init "ShapeRelator").before A s = true) (h11 : (Cond.methodLinkNest RX4 11 yX0_init "ShapeRelator").before A s = true) (h20 : (Cond.methodLinkNest RX4 20 yX2_init "ShapeRelator").before A s = true)
    (n1 : (Cond.not (.castable "java/lang/IllegalArgumentException" "java/lang/IndexOutOfBoundsException")).before A s = true) (n2 : (Cond.not (.castable "java/lang/IllegalStateException" "java/lang/IndexOutOfBoundsException")).before A s = true) (n3 : (Cond.not (.castable "java/lang/IllegalStateException" "java/lang/IllegalArgumentException")).before A s = true) : evT_ s := by
  refine ⟨fun w hw => va_Nw.of ?_ (hB w hw), fun q hq => vk_1 (hS q hq), va_Nw.of rfl h9, va_Nw.of rfl h11, va_Nw.of rfl h20, va_Nc.of n1, va_Nc.of n2, va_Nc.of n3⟩
  unfold evB_ at hw
  rcases List.mem_cons.mp hw with e | hw
  · subst e; rfl
  rcases List.mem_cons.mp hw with e | hw
  · subst e; rfl
  rcases List.mem_cons.mp hw with e | hw
  · subst e; rfl
  rcases List.mem_cons.mp hw with e | hw
  · subst e; rfl
  rcases List.mem_cons.mp hw with e | hw
  · subst e; rfl
  rw [List.mem_singleton.mp hw]; rfl
theorem ev_of {A : Array Value} {s : State} (h : evT_ s) (hl1 : (Cond.laysStatic Bundle.tN "UNASSIGNED_STACK" Bundle.steD).before A s = true) (hl2 : (Cond.laysStatic Bundle.tN "SUPPRESSED_SENTINEL" Bundle.listD).before A s = true) (hi : (Cond.initialized Bundle.tN).before A s = true)
    (h1 : (Cond.isRef (.static Bundle.tN "UNASSIGNED_STACK" Bundle.steD)).before A s = true) (h2 : (Cond.isRef (.static Bundle.tN "SUPPRESSED_SENTINEL" Bundle.listD)).before A s = true) : ev_ (fun q => s.heap.size ≤ q) s :=
  ⟨h, vx_Zqof hl1 hi h1 (fun a ha z => Nat.not_lt.mpr z ha), vx_Zqof hl2 hi h2 (fun a ha z => Nat.not_lt.mpr z ha)⟩
