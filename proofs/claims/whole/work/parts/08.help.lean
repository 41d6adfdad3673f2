theorem throwT_is {t : Nat} {σ : Sg} {q : Int} (h : fX9_throwFailureT t σ = some q) : q = 2 := by
  unfold fX9_throwFailureT at h
  obtain ⟨a, -, h⟩ := bdS h
  by_cases c : a ≤ 0
  · rw [if_pos c] at h; cases h
  · rw [if_neg c] at h; exact (sE h).symm
theorem tossCatch {x : Ct} (HT : TBx x [(28, 32, 35, 202)]) : CatchAt x RX11 29 (exName 2) 35 := by
  obtain ⟨p, l, e, R, s, m, args, below, meth, c, Q, kc, ks⟩ := x
  refine ⟨[], ⟨28, 32, 35, 202⟩, [], "java/lang/IllegalStateException", HT, fun w hw => absurd hw List.not_mem_nil, rfl, by decide, cl_RX11_202, by decide +kernel, rfl⟩
