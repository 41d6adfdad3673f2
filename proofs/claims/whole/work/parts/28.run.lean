theorem wfC0 : wfS yC σC0 := by
  intro i k _
  unfold σC0
  by_cases h : i = 0 ∧ k = 9
  · rw [if_pos h]; exact ⟨by decide, by decide⟩
  · rw [if_neg h]
    by_cases h2 : i = 48 ∧ k = 9
    · rw [if_pos h2]; exact ⟨by decide, by decide⟩
    · rw [if_neg h2]; exact ⟨by decide, by decide⟩
set_option maxRecDepth 100000 in
theorem wfT0 : wfS yR τR0 := by
  intro i k _
  have h : τR0 i k = 0 ∨ τR0 i k = -1 ∨ τR0 i k = 2 := by unfold τR0 σR0; exact rng_start i k
  rcases h with h | h | h <;> (rw [h]; exact ⟨by decide, by decide⟩)
set_option maxRecDepth 100000 in
theorem R0_start : Rel 0 σC0 τR0 := by unfold σC0 τR0 σR0; exact Rel_start
set_option maxRecDepth 100000 in
theorem lw_run {p : Program} {l : Launch} {e : Env} {s : State} {m : MethodId} {below : List Frame} {meth : Method} {c : Code} {b L : Nat} {xs : Nat → Int32} (hL : L ≤ 3072) (C0 : lw_At p s m meth c b L xs) (hlt : l.stackTraces = false) {g : Gm} {nf nlc : Nat} (hf : 67 ≤ nf) (hl : 1475 ≤ nlc) (hA : ∀ q, aw yL g q → s.heap.size ≤ q) {kc ks : Nat} {f : Int → Int}
    (CL : CxL (p, l, e, room_1, s, m, #[Value.ref b], below, meth, c, lw_Z below #[Value.ref b] s, kc, ks) g nf nlc 512) : J (p, l, e, room_1, s, m, #[Value.ref b], below, meth, c, lw_Z below #[Value.ref b] s, kc, ks) yL g 8 23 (lwLo g b 0) [] (zL σC0 τR0 f) := by
  refine lw_loop (nf := nf) (nlc := nlc) hf hl hL hlt (Fin := fun x => ∃ kc ks, x = (p, l, e, room_1, s, m, #[Value.ref b], below, meth, c, lw_Z below #[Value.ref b] s, kc, ks)) ?_ ?_ 512 _ 0 0 σC0 τR0 f CL ⟨C0.2.2.2.2.2.2.1, C0.2.2.2.2.2.2.2.1, fun h => ?_⟩ rfl ⟨kc, ks, rfl⟩ (by decide) (by omega) (by decide) R0_start (by decide) wfC0 wfT0
  · rintro x ⟨kc, ks, rfl⟩
    exact ⟨kc + 1, ks + 6, rfl⟩
  · rintro x i σ τ f ⟨kc, ks, rfl⟩ C
    exact lw_fin C0 hA C.2.2.2.2.2.2.2.2.2.2.2.1 C.2.2.2.2.2.2.2.2.2.2.2.2 C
  · exact absurd (hA b h) (by have := C0.2.2.2.2.2.2.2.1; omega)
