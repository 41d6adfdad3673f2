section
set_option linter.unusedVariables false
variable {σ τ : Sg} {V : Vw} {N : Int}
theorem pf_run {g m x d len : Int} {O w : Int → Int} {σ0 τ0 : Sg} (E0 : LayEnv σ0 τ0 V g m x O) (B0 : Byt σ0 τ0 d w len) : ∀ (n : Nat) (i : Int) (σ τ : Sg), (∀ j, ¬ (36 ≤ j ∧ j ≤ 38) → σ j = σ0 j) → (∀ j, j ≠ 35 → j ≠ 37 → τ j = τ0 j) → Dy σ τ V i → 0 ≤ i → i ≤ m → m - i < (n : Int) → 0 < n →
    ∃ σ' τ', (∀ j, ¬ (36 ≤ j ∧ j ≤ 38) → σ' j = σ0 j) ∧ (∀ j, j ≠ 35 → j ≠ 37 → τ' j = τ0 j) ∧
      ((∃ f, (0 ≤ f ∧ f ≤ 8) ∧ fX3_firstBroken_L2 n (tpO d) i σ = some (.inl (f, σ')) ∧ fX12_proof_L54 n d i τ = some (.inl (f, τ'))) ∨
       (fX3_firstBroken_L2 n (tpO d) i σ = some (.inr σ') ∧ fX12_proof_L54 n d i τ = some (.inr τ') ∧ ∀ s, 0 ≤ s → s < 6 → σ' 36 s = τ' 37 s)) := by
  have hs := B0.s; have hd := B0.hd; have hc := B0.c
  have hm := E0.m8
  intro n
  induction n with
  | zero => intro i σ τ _ _ _ _ _ h; omega
  | succ n ih =>
    intro i σ τ F G D h0 h1 h2 _
    have E : LayEnv σ τ V g m x O := E0.congr (fun j j1 j2 => F j (by omega)) (fun p _ => by rw [F 32 (by omega)]) (fun j j1 j2 => G j (by omega) (by omega)) (fun p _ => by rw [G 0 (by decide) (by decide)])
    have B : Byt σ τ d w len := B0.congr (fun j hj => F j (by omega)) (G 29 (by decide) (by decide)) (G 31 (by decide) (by decide))
    have hs' := B.s; have hc' := B.c
    unfold fX3_firstBroken_L2 fX12_proof_L54
    rw [E.c.hm, E.l.hm, hc']
    by_cases c1 : i < m
    · rw [iT c1, iT c1, rd_e hd.1 (by omega), hs'.1]
      by_cases c2 : i < len
      · rw [iT c2, iT c2, cc_num B h0 c2, rr_word B h0 (by omega)]; simp only [bnd_e]
        rw [rr_isBarge, E.w]; simp only [bnd_e]
        by_cases hb : isB V (w i)
        · have hb1 := hb.1
          rw [bi_T hb, iF (by decide), cc_may E D ⟨h0, c1⟩ hb1, rr_may E D ⟨h0, c1⟩ hb1]; simp only [bnd_e]
          by_cases my : mayV V τ g x O i (w i)
          · have hl := D.ld _ hb1.1 hb1.2
            have hch := E.r.b _ hb1.1 hb1.2
            have hl40 := my.2.1
            rw [bi_T my, iF (by decide), iF (by decide), cc_choose (by omega) hb1 (by omega)]; simp only [bnd_e]
            rw [ck_e (by omega) (by omega), wr_e h0 (by omega), rd_e hb1.1 (by omega), put_ne (by decide), ck_e (by omega) (by omega), wr_e hb1.1 (by omega), ck_e (by omega) (by omega)]
            exact ih (i + 1) _ _ (fun j hj => by rw [put_ne (by omega), put_ne (by omega), put_ne (by omega), F j hj]) (fun j j1 j2 => by rw [put_ne j2, put_ne j1, G j j1 j2]) (Dy_choose D (by omega) hb1 (by omega) hb) (by omega) (by omega) (by omega) (by omega)
          · rw [bi_F my, iT rfl, iT rfl]
            exact ⟨σ, τ, F, G, .inl ⟨i, by omega, rfl, rfl⟩⟩
        · have no : fX3_mayChoose i (w i) σ = some 0 := by
            by_cases r6 : 0 ≤ w i ∧ w i < 6
            · rw [cc_may E D ⟨h0, c1⟩ r6, bi_F (fun y => hb y.1.1.1)]
            · unfold fX3_mayChoose
              rw [iF (by omega), iT (by omega)]
              by_cases r0 : w i < 0
              · rw [iT r0]
              · rw [iF r0, iF (by omega)]
          rw [no, bi_F hb]; simp only [bnd_e, if_true]
          exact ⟨σ, τ, F, G, .inl ⟨i, by omega, rfl, rfl⟩⟩
      · rw [iF c2, iF c2]
        exact ⟨σ, τ, F, G, .inr ⟨rfl, rfl, fun s s0 s1 => (D.ld s s0 s1).1⟩⟩
    · rw [iF c1, iF c1]
      exact ⟨σ, τ, F, G, .inr ⟨rfl, rfl, fun s s0 s1 => (D.ld s s0 s1).1⟩⟩
theorem m_proof (d x : Int) : Mt (fX11_proof d x) (fX12_proof d x) := by
  intro N σ τ1 R hN
  have v := R.v
  have hn := v.n
  have hgap := R.gap
  unfold fX11_proof fX12_proof
  rw [isTape_b]; simp only [bnd_e]
  by_cases hd : 0 ≤ d ∧ d < 6
  · rw [iT hd, bi_T (show 0 ≤ d ∧ d ≤ 5 by omega)]; (try simp only [bnd_e, one0, two0, if_false, ↓reduceIte])
    rw [isIn_b]; simp only [bnd_e]
    by_cases hx : 0 ≤ x ∧ x ≤ 4
    · rw [bi_T hx, iF (show ¬ x < 0 by omega), iT hx.2]; (try simp only [bnd_e, one0, two0, if_false, ↓reduceIte])
      have op : fX1_openOnes 19 σ = some (opN (vw τ1) (vw τ1).2.2.2.2.2.1.toNat) := cc_openT (σ := σ) (t := 19) (m := (vw τ1).2.2.2.2.2.1) hn (f := (vw τ1).2.2.1.2.2.2.2) (fun c c0 c1 => (v.c c c0 c1).1.2.2.1)
      obtain ⟨τ2, a1, a2, a3, a4, a5, a6⟩ := rr_gathers v.toRelN (τ := τ1) rfl
      rw [op, a1]; simp only [bnd_e]
      rw [a4]
      have fr2 : ∀ τ' : Sg, (∀ j, j ≠ 0 → ¬ (34 ≤ j ∧ j ≤ 38) → τ' j = τ1 j) → (∀ p, p ≠ 47 → p ≠ 48 → τ' 0 p = τ1 0 p) → vw τ' = vw τ1 := fun τ' h1 h2 => vw_congr (fun j hj => h1 j (ne_of_mem hj (by decide)) (by simp only [List.mem_cons, List.not_mem_nil, or_false] at hj; omega)) (h2 _ (by decide) (by decide)) (h2 _ (by decide) (by decide)) (h2 _ (by decide) (by decide)) (h2 _ (by decide) (by decide))
      have scr : ∀ σ' τ' : Sg, (∀ j, ¬ (32 ≤ j ∧ j ≤ 39) → σ' j = σ j) → (∀ j, j ≠ 0 → ¬ (34 ≤ j ∧ j ≤ 38) → τ' j = τ1 j) → (∀ p, p ≠ 47 → p ≠ 48 → τ' 0 p = τ1 0 p) → Rel N σ' τ' := fun σ' τ' h1 h2 h3 => Rel_scr R (fun j j1 j2 j3 => h1 j (by omega)) (fun j j1 j2 j3 => h2 j j1 (by omega)) (fun p p1 p2 => h3 p (by omega) (by omega)) (by
        have hv := fr2 τ' h2 h3
        rcases R.play with p | ⟨p1, p2⟩
        · exact .inl (by rw [h3 54 (by decide) (by decide)]; exact p)
        · exact .inr ⟨by rw [h3 54 (by decide) (by decide)]; exact p1, by rw [hv, h2 40 (by decide) (by decide), h2 41 (by decide) (by decide), h2 42 (by decide) (by decide)]; exact p2⟩)
      have R2 : Rel N σ τ2 := scr σ τ2 (fun _ _ => rfl) (fun j j0 j1 => a2 j j0 (by omega) (by omega)) (fun p p1 _ => a3 p p1)
      by_cases c8 : opN (vw τ1) (vw τ1).2.2.2.2.2.1.toNat ≤ 8
      · rw [iT c8, iT c8]
        have T := R2.tape d hd.1 hd.2
        have so := T.so
        unfold fX9_refusalAs fX12_wrongBytes
        rw [so.1, rd_e hd.1 (by omega)]
        by_cases c0 : τ2 28 d = 0
        · obtain ⟨r1, r2, r3⟩ := refuse_e R2 hN (-11)
          rw [iT c0, iT c0, r2]; simp only [bnd_e]
          rw [iF (by decide), iF (by decide), r1]
          exact ⟨_, _, _, rfl, rfl, r3⟩
        · rw [iF c0, iF c0, rd_e hd.1 (by omega)]
          by_cases c1 : τ2 28 d = 1
          · rw [iT c1, iT c1]; simp only [bnd_e, if_true]
            have By2 := Byt_of R2 hd c1
            have le := T.le (by omega) (by omega)
            obtain ⟨len, hlen⟩ : ∃ l, l = τ2 29 d := ⟨_, rfl⟩
            obtain ⟨w, hw⟩ : ∃ w, w = fun i => τ2 31 (100 * d + i) := ⟨_, rfl⟩
            rw [← hlen, ← hw] at By2
            have hop := opN_rng (vw τ1) (vw τ1).2.2.2.2.2.1.toNat
            obtain ⟨m, hm⟩ : ∃ m, m = opN (vw τ1) (vw τ1).2.2.2.2.2.1.toNat := ⟨_, rfl⟩
            obtain ⟨O, hO⟩ : ∃ O, O = opF (vw τ1) (vw τ1).2.2.2.2.2.1.toNat := ⟨_, rfl⟩
            have hOr : ∀ j, 0 ≤ j → j < m → 0 ≤ O j ∧ O j < (vw τ1).2.2.2.2.2.1 := fun j j0 j1 => by
              have := opF_rng (vw τ1) (vw τ1).2.2.2.2.2.1.toNat j j0 (by omega)
              rw [hO]; omega
            obtain ⟨σ2, b1, b2, b3, b4, b5⟩ := cc_prep v (g := σ 0 9) hx c8
            rw [b1]; simp only [bnd_e]
            have hv2 : vw τ2 = vw τ1 := fr2 _ (fun j j0 j1 => a2 j j0 (by omega) (by omega)) (fun p p1 p2 => a3 p p1)
            obtain ⟨τ3, d1, d2, d3, -⟩ := rr_fitsL v.toRelN hv2 (g := σ 0 9) (m := m) (by rw [a3 31 (by decide)]; exact hgap.1.symm) (by rw [a4, hm]) (by omega) hx (O := O) (fun j j0 j1 => ⟨by rw [a5 j j0 (by omega), hO], hOr j j0 j1⟩) fu 0 τ2 (fun _ _ => rfl) (by omega) (by rw [fu_i]; omega) fu_pos
            have ff : fX12_findFits x τ2 = some τ3 := by unfold fX12_findFits; rw [d1]; rfl
            rw [ff]; simp only [bnd_e]
            have e3 : ∀ j, j ≠ 0 → ¬ (34 ≤ j ∧ j ≤ 38) → τ3 j = τ1 j := fun j j0 j1 => by rw [d2 j (by omega), a2 j j0 (by omega) (by omega)]
            have e30 : ∀ p, p ≠ 47 → p ≠ 48 → τ3 0 p = τ1 0 p := fun p p1 p2 => by rw [d2 0 (by decide), a3 p p1]
            have Ev : LayEnv σ2 τ3 (vw τ1) (σ 0 9) m x O := (LayEnv.mk (r := RelN_congr v.toRelN (fun j hj => b2 j (by simp only [List.mem_cons, List.not_mem_nil, or_false] at hj; omega))) (w := fr2 _ e3 e30) (c := ⟨b3.hg, by rw [hm]; exact b3.hm, by rw [hm, hO]; exact b3.ho, by rw [hm, hO]; exact b3.hf, by rw [hm, hO]; exact b3.hk⟩) (l := ⟨by rw [e30 31 (by decide) (by decide)]; exact hgap.1.symm, by rw [d2 0 (by decide), a4, hm], fun j j0 j1 => by rw [d2 34 (by decide), a5 j j0 (by omega), hO], fun t s t0 t1 s0 s1 => d3 t s t0 t1 s0 s1⟩) (m8 := by omega) (ho := hOr))
            have q37 : ∀ s, 0 ≤ s → s < 6 → τ3 37 s = ldN (vw τ1) (vw τ1).2.2.2.2.2.1.toNat s := fun s s0 s1 => by rw [d2 37 (by decide)]; exact a6 s s0 s1
            have D : Dy σ2 τ3 (vw τ1) 0 := (Dy.mk (ld := fun s s0 s1 => by
                have := ldN_rng (vw τ1) (vw τ1).2.2.2.2.2.1.toNat s
                rw [b4 s s0 s1, q37 s s0 s1]; omega) (gt := fun s s0 s1 => by
                rw [b5 s s0 s1]
                refine ⟨by omega, fun q hq => ?_⟩
                simp; omega) (ch := fun j j0 j1 => by omega))
            have By3 : Byt σ2 τ3 d w len := By2.congr (fun j hj => b2 j (by omega)) (d2 29 (by decide)) (d2 31 (by decide))
            obtain ⟨σ4, τ4, f1, f2, H⟩ := pf_run Ev By3 fu 0 σ2 τ3 (fun _ _ => rfl) (fun _ _ _ => rfl) D (by omega) (by omega) (by rw [fu_i]; omega) fu_pos
            have g3 : ∀ j, ¬ (32 ≤ j ∧ j ≤ 39) → σ4 j = σ j := fun j hj => by rw [f1 j (by omega), b2 j (by omega)]
            have g4 : ∀ j, j ≠ 0 → ¬ (34 ≤ j ∧ j ≤ 38) → τ4 j = τ1 j := fun j j0 j1 => by rw [f2 j (by omega) (by omega), e3 j j0 j1]
            have g5 : ∀ p, p ≠ 47 → p ≠ 48 → τ4 0 p = τ1 0 p := fun p p1 p2 => by rw [f2 0 (by decide) (by decide), e30 p p1 p2]
            have R4 := scr σ4 τ4 g3 g4 g5
            rcases H with ⟨f, f0, h1, h2⟩ | ⟨h1, h2, h3⟩
            · have fb : fX3_firstBroken (tpO d) σ2 = some (f, σ4) := by unfold fX3_firstBroken; rw [h1]; rfl
              rw [fb, h2]; simp only [bnd_e, Sum.elim_inl]
              rw [iF (show ¬ f < 0 by omega), ck_e (by omega) (by omega), ck_e (by omega) (by omega)]
              exact ⟨_, _, _, rfl, rfl, R4.up⟩
            · have fb : fX3_firstBroken (tpO d) σ2 = some (-1, σ4) := by unfold fX3_firstBroken; rw [h1]; rfl
              rw [fb, h2]; simp only [bnd_e, Sum.elim_inr]
              have hc3 := By3.c; have hs3 := By3.s
              have tg := tpO_ge (d := d)
              have z1 : σ4 (tpO d) 1 = len := by rw [f1 _ (by omega)]; exact hc3
              have z2 : σ4 32 10 = m := by rw [f1 32 (by omega)]; exact Ev.c.hm
              have z3 : τ4 29 d = len := by rw [f2 29 (by decide) (by decide)]; exact hs3.1
              have z4 : τ4 0 47 = m := by rw [f2 0 (by decide) (by decide)]; exact Ev.l.hm
              rw [iT (show (-1 : Int) < 0 by decide), z1, z2, rd_e hd.1 (by omega), z3, z4]
              by_cases c : len < m
              · rw [iT c, iT c]; exact refuse_m R4 hN _
              · rw [iF c, iF c, cc_mostLoad, rr_greatest, gr_cong h3]
                exact ⟨_, _, _, rfl, rfl, R4.up⟩
          · obtain ⟨r1, r2, r3⟩ := refuse_e R2 hN (-12)
            rw [iF c1, iF c1, r2]; simp only [bnd_e]
            rw [iF (by decide), iF (by decide), r1]
            exact ⟨_, _, _, rfl, rfl, r3⟩
      · rw [iF c8, iF c8]
        exact ⟨_, _, _, rfl, rfl, R2.up⟩
    · rw [bi_F hx]; (try simp only [bnd_e, one0, two0, if_false, ↓reduceIte])
      by_cases h0 : x < 0
      · rw [iT h0]; exact no_ch R
      · rw [iF h0, iF (show ¬ x ≤ 4 by omega)]; exact no_ch R
  · rw [iF hd, bi_F (show ¬ (0 ≤ d ∧ d ≤ 5) by omega)]; exact no_ch R
end

section
set_option linter.unusedVariables false
variable {σ τ : Sg} {V : Vw} {N : Int}

abbrev Dr (σ τ : Sg) (V : Vw) : Prop := (σ 25 4 = τ 0 39 ∧ 0 ≤ τ 0 39 ∧ τ 0 39 ≤ 120) ∧ (∀ c, 0 ≤ c → c < τ 0 39 → (σ 26 c = τ 18 c ∧ σ 27 c = τ 19 c ∧ σ 28 c = τ 20 c ∧ σ 29 c = τ 21 c) ∧ told V (τ 19 c) ∧ (τ 20 c = -1 ∨ isB V (τ 20 c)) ∧ (-4 ≤ τ 21 c ∧ τ 21 c ≤ 4) ∧ (V.1.2.1 (τ 19 c) ≤ τ 18 c ∧ τ 18 c ≤ 20000))
theorem Dr.n {σ τ : Sg} {V : Vw} (h : Dr σ τ V) : σ 25 4 = τ 0 39 ∧ 0 ≤ τ 0 39 ∧ τ 0 39 ≤ 120 := h.1
theorem Dr.c {σ τ : Sg} {V : Vw} (h : Dr σ τ V) : ∀ c, 0 ≤ c → c < τ 0 39 → (σ 26 c = τ 18 c ∧ σ 27 c = τ 19 c ∧ σ 28 c = τ 20 c ∧ σ 29 c = τ 21 c) ∧ told V (τ 19 c) ∧ (τ 20 c = -1 ∨ isB V (τ 20 c)) ∧ (-4 ≤ τ 21 c ∧ τ 21 c ≤ 4) ∧ (V.1.2.1 (τ 19 c) ≤ τ 18 c ∧ τ 18 c ≤ 20000) := h.2
theorem Dr.mk {σ τ : Sg} {V : Vw} (n : σ 25 4 = τ 0 39 ∧ 0 ≤ τ 0 39 ∧ τ 0 39 ≤ 120) (c : ∀ c, 0 ≤ c → c < τ 0 39 → (σ 26 c = τ 18 c ∧ σ 27 c = τ 19 c ∧ σ 28 c = τ 20 c ∧ σ 29 c = τ 21 c) ∧ told V (τ 19 c) ∧ (τ 20 c = -1 ∨ isB V (τ 20 c)) ∧ (-4 ≤ τ 21 c ∧ τ 21 c ≤ 4) ∧ (V.1.2.1 (τ 19 c) ≤ τ 18 c ∧ τ 18 c ≤ 20000)) : Dr σ τ V := ⟨n, c⟩
abbrev Wf (σ τ σ' τ' : Sg) : Prop := (∀ j, ¬ (25 ≤ j ∧ j ≤ 29) → σ' j = σ j) ∧ (∀ j, j ≠ 0 → ¬ (18 ≤ j ∧ j ≤ 21) → τ' j = τ j) ∧ (∀ p, p ≠ 39 → τ' 0 p = τ 0 p)
theorem Wf.a {σ τ σ' τ' : Sg} (h : Wf σ τ σ' τ') : ∀ j, ¬ (25 ≤ j ∧ j ≤ 29) → σ' j = σ j := h.1
theorem Wf.b {σ τ σ' τ' : Sg} (h : Wf σ τ σ' τ') : ∀ j, j ≠ 0 → ¬ (18 ≤ j ∧ j ≤ 21) → τ' j = τ j := h.2.1
theorem Wf.c {σ τ σ' τ' : Sg} (h : Wf σ τ σ' τ') : ∀ p, p ≠ 39 → τ' 0 p = τ 0 p := h.2.2
theorem Wf.mk {σ τ σ' τ' : Sg} (a : ∀ j, ¬ (25 ≤ j ∧ j ≤ 29) → σ' j = σ j) (b : ∀ j, j ≠ 0 → ¬ (18 ≤ j ∧ j ≤ 21) → τ' j = τ j) (c : ∀ p, p ≠ 39 → τ' 0 p = τ 0 p) : Wf σ τ σ' τ' := ⟨a, b, c⟩
theorem Wf.refl : Wf σ τ σ τ := ⟨fun _ _ => rfl, fun _ _ _ => rfl, fun _ _ => rfl⟩
theorem Wf.trans {σ' τ' σ2 τ2 : Sg} (h : Wf σ τ σ' τ') (h' : Wf σ' τ' σ2 τ2) : Wf σ τ σ2 τ2 := ⟨fun j hj => by rw [h'.a j hj, h.a j hj], fun j j0 j1 => by rw [h'.b j j0 j1, h.b j j0 j1], fun p hp => by rw [h'.c p hp, h.c p hp]⟩
theorem Wf.r {σ' τ' : Sg} (h : Wf σ τ σ' τ') (R : RelN σ V) : RelN σ' V := RelN_congr R (fun j hj => h.a j (by simp only [List.mem_cons, List.not_mem_nil, or_false] at hj; omega))
theorem Wf.v {σ' τ' : Sg} (h : Wf σ τ σ' τ') (hV : vw τ = V) : vw τ' = V := by
  rw [← hV]
  exact vw_congr (fun j hj => h.b j (ne_of_mem hj (by decide)) (by simp only [List.mem_cons, List.not_mem_nil, or_false] at hj; omega)) (h.c _ (by decide)) (h.c _ (by decide)) (h.c _ (by decide)) (h.c _ (by decide))
theorem mk_joint (R : RelN σ V) (hV : vw τ = V) (D : Dr σ τ V) {tc tr k s a : Int} (hk : told V k) (hs : s = -1 ∨ isB V s) (ha : -4 ≤ a ∧ a ≤ 4) (ht : tc = tr ∨ (20000 < tc ∧ 20000 < tr)) :
    ∃ b σ' τ', fX6_makeCue tc k s a σ = some (b, σ') ∧ fX12_makes tr k s a τ = some (b, τ') ∧ (b = 0 ∨ b = 1) ∧ Wf σ τ σ' τ' ∧ Dr σ' τ' V := by
  have hK := R.k k hk.1.1 hk.1.2
  have hk1 := hk.1
  have e2 : τ 2 = V.1.2.1 := by rw [← hV]
  have hn := D.n
  have pre : fX6_makeCue tc k s a σ = fX6_makeCue_P32 tc k s a σ := by
    unfold fX6_makeCue
    rw [cc_toldT R hk]; simp only [bnd_e]; rw [iF (by decide)]
    by_cases c : s = -1
    · rw [iT c]
    · rw [iF c, cc_isBarge R, bi_T (hs.resolve_left c)]; simp only [bnd_e]; rw [iF (by decide)]
  rw [pre]
  unfold fX6_makeCue_P32 fX12_makes
  rw [cc_lift R hk, rd_e hk1.1 (by omega), e2]; simp only [bnd_e]
  by_cases c1 : tr < V.1.2.1 k
  · rw [iT (by omega), iT c1]; exact ⟨0, σ, τ, rfl, rfl, by omega, Wf.refl, D⟩
  · rw [iF (by omega), iF c1]
    by_cases c2 : tr ≤ 20000
    · have htt : tc = tr := by omega
      rw [iT (by omega), iT c2]
      by_cases c3 : τ 0 39 = 120
      · have : fX1_append 25 tc k s a σ = some (0, σ) := by unfold fX1_append; rw [iF (by omega), iF (by omega)]
        rw [this, iT c3]; exact ⟨0, σ, τ, rfl, rfl, by omega, Wf.refl, D⟩
      · obtain ⟨q, hq⟩ : ∃ q, q = τ 0 39 := ⟨_, rfl⟩
        have hqs : σ 25 4 = q := by omega
        have ap : fX1_append 25 tc k s a σ = some (1, put (put (put (put (put σ 26 q tc) 27 q k) 28 q s) 29 q a) 25 4 (q + 1)) := by
          unfold fX1_append
          rw [hqs, iF (by omega), iT (by omega), wr_e (by omega) (by omega)]
          simp (disch := decide) only [put_ne]
          rw [hqs, wr_e (by omega) (by omega)]
          simp (disch := decide) only [put_ne]
          rw [hqs, wr_e (by omega) (by omega)]
          simp (disch := decide) only [put_ne]
          rw [hqs, wr_e (by omega) (by omega)]
          simp (disch := decide) only [put_ne]
          rw [hqs, ck_e (by omega) (by omega), st1_e]
        rw [ap, iF c3, ← hq]; simp only [bnd_e]
        rw [wr_e (by omega) (by omega)]
        simp (disch := decide) only [put_ne]
        rw [← hq, wr_e (by omega) (by omega)]
        simp (disch := decide) only [put_ne]
        rw [← hq, wr_e (by omega) (by omega)]
        simp (disch := decide) only [put_ne]
        rw [← hq, wr_e (by omega) (by omega)]
        simp (disch := decide) only [put_ne]
        rw [← hq, ck_e (by omega) (by omega), st1_e]
        refine ⟨1, _, _, rfl, rfl, by omega, ⟨?_, ?_, ?_⟩, ⟨?_, ?_⟩⟩
        · intro j hj; rw [put_ne (by omega), put_ne (by omega), put_ne (by omega), put_ne (by omega), put_ne (by omega)]
        · intro j j0 j1; rw [put_ne j0, put_ne (by omega), put_ne (by omega), put_ne (by omega), put_ne (by omega)]
        · intro p hp; rw [put_F hp, put_ne (by decide), put_ne (by decide), put_ne (by decide), put_ne (by decide)]
        · rw [put_T rfl, put_T rfl]; omega
        · intro c c0 c1'
          rw [put_T rfl] at c1'
          simp (disch := decide) only [put_ne, put_at]
          by_cases e : c = q
          · simp only [if_pos e]; exact ⟨⟨htt, trivial, trivial, trivial⟩, hk, hs, ha, by omega⟩
          · simp only [if_neg e]; exact D.c c c0 (by omega)
    · rw [iF (by omega), iF c2]; exact ⟨0, σ, τ, rfl, rfl, by omega, Wf.refl, D⟩
theorem mk_no (R : RelN σ V) {tc k s a : Int} (h : ¬ (told V k ∧ (s = -1 ∨ isB V s))) : fX6_makeCue tc k s a σ = some (0, σ) := by
  unfold fX6_makeCue
  rw [cc_told R]; simp only [bnd_e]
  by_cases hk : told V k
  · rw [bi_T hk, iF (by decide), iF (fun y => h ⟨hk, .inl y⟩), cc_isBarge R, bi_F (fun y => h ⟨hk, .inr y⟩)]; rfl
  · rw [bi_F hk]; rfl
theorem fan_joint {k s n : Int} (hk : told V k) (hs : s = -1 ∨ isB V s) (hn : 1 ≤ n ∧ n ≤ 5) {tc tr : Int} (ht : tc = tr ∨ (20000 < tc ∧ 20000 < tr)) : ∀ (f : Nat) (i : Int) (σ τ : Sg), RelN σ V → vw τ = V → Dr σ τ V → σ 24 5 = tc → 0 ≤ i → i ≤ n → n - i < (f : Int) → 0 < f →
    ∃ σ' τ', ((fX6_makeFan_L15 f k s n i σ = some (.inl σ') ∧ fX12_cuesBy_L124 f tr k s n i τ = some (.inl τ')) ∨ (fX6_makeFan_L15 f k s n i σ = some (.inr σ') ∧ fX12_cuesBy_L124 f tr k s n i τ = some (.inr τ'))) ∧ Wf σ τ σ' τ' ∧ Dr σ' τ' V := by
  intro f
  induction f with
  | zero => intro i σ τ _ _ _ _ _ _ h; omega
  | succ f ih =>
    intro i σ τ R hV D hnow h0 h1 h2 _
    unfold fX6_makeFan_L15 fX12_cuesBy_L124
    by_cases c : i < n
    · rw [iT c, iT c, ck_e (by omega) (by omega), ck_e (by omega) (by omega), ck_e (by omega) (by omega), ck_e (by omega) (by omega), ck_e (by omega) (by omega), ck_e (by omega) (by omega), hnow]
      obtain ⟨b, σ1, τ1, a1, a2, a3, a4, a5⟩ := mk_joint R hV D (a := 2 * i - (n - 1)) hk hs (by omega) ht
      rw [a1, a2]; simp only [bnd_e]
      by_cases hb : b = 0
      · rw [iT hb, iT hb]; exact ⟨σ1, τ1, .inl ⟨rfl, rfl⟩, a4, a5⟩
      · rw [iF hb, iF hb, ck_e (by omega) (by omega), ck_e (by omega) (by omega)]
        obtain ⟨σ', τ', b1, b2, b3⟩ := ih (i + 1) σ1 τ1 (a4.r R) (a4.v hV) a5 (by rw [a4.a 24 (by omega)]; exact hnow) (by omega) (by omega) (by omega) (by omega)
        exact ⟨σ', τ', b1, a4.trans b2, b3⟩
    · rw [iF c, iF c]; exact ⟨σ, τ, .inr ⟨rfl, rfl⟩, Wf.refl, D⟩

theorem run_joint {k s e b bt gp w : Int} (hk : told V k) (hs : 0 ≤ s ∧ s < 6) (he : 0 ≤ e ∧ e < 6) (hb : 0 ≤ b ∧ b ≤ 50) (hbt : 1 ≤ bt ∧ bt ≤ 50) (hg : gp = b * bt) (hw : (w = 1 ∧ s ≤ e) ∨ (w = -1 ∧ e < s)) {tc tr L : Int} (hL : L = abI (e - s)) (ht : tc = tr ∨ (20000 < tc ∧ 20000 < tr)) (htc : 0 ≤ tc ∧ tc ≤ 2000000000) (htr : 0 ≤ tr ∧ tr ≤ 1000000) : ∀ (f : Nat) (i : Int) (σ τ : Sg), RelN σ V → vw τ = V → Dr σ τ V → σ 24 5 = tc → σ 24 6 = bt → 0 ≤ i → i ≤ L + 1 → L + 1 - i < (f : Int) → 0 < f →
    ∃ σ' τ', ((fX6_makeRun_L23 f k s b w L i σ = some (.inl σ') ∧ fX12_cuesBy_L280 f k e gp w (tr + i * gp) (s + i * w) τ = some (.inl τ')) ∨ (fX6_makeRun_L23 f k s b w L i σ = some (.inr σ') ∧ fX12_cuesBy_L280 f k e gp w (tr + i * gp) (s + i * w) τ = some (.inr τ'))) ∧ Wf σ τ σ' τ' ∧ Dr σ' τ' V := by
  have hL2 : L = (e - s) * w ∧ 0 ≤ L ∧ L ≤ 5 := by
    rw [hL]; unfold abI
    rcases hw with ⟨rfl, h⟩ | ⟨rfl, h⟩
    · rw [iT (by omega)]; omega
    · rw [iF (by omega)]; omega
  have hgp : 0 ≤ gp ∧ gp ≤ 2500 := by
    rw [hg]
    refine ⟨Int.mul_nonneg hb.1 (by omega), ?_⟩
    calc b * bt ≤ 50 * bt := Int.mul_le_mul_of_nonneg_right hb.2 (by omega)
      _ ≤ 2500 := by omega
  intro f
  induction f with
  | zero => intro i σ τ _ _ _ _ _ _ _ h; omega
  | succ f ih =>
    intro i σ τ R hV D hnow hbeat h0 h1 h2 _
    unfold fX6_makeRun_L23 fX12_cuesBy_L280
    have hiv : i = 0 ∨ i = 1 ∨ i = 2 ∨ i = 3 ∨ i = 4 ∨ i = 5 ∨ i = 6 := by omega
    have hib : 0 ≤ i * b ∧ i * b ≤ 300 ∧ i * b * bt = i * gp ∧ 0 ≤ i * gp ∧ i * gp ≤ 15000 := by
      rw [Int.mul_assoc, ← hg]
      rcases hiv with rfl | rfl | rfl | rfl | rfl | rfl | rfl <;> omega
    have hpos : s + i * w = e + w ↔ i = L + 1 := by
      rcases hw with ⟨rfl, h⟩ | ⟨rfl, h⟩ <;> omega
    rw [ck_e (v := e + w) (by rcases hw with ⟨rfl, h⟩ | ⟨rfl, h⟩ <;> omega) (by rcases hw with ⟨rfl, h⟩ | ⟨rfl, h⟩ <;> omega)]
    by_cases c : i ≤ L
    · have hfr : 0 ≤ s + i * w ∧ s + i * w < 6 := by rcases hw with ⟨rfl, h⟩ | ⟨rfl, h⟩ <;> omega
      have hiw : -10 ≤ i * w ∧ i * w ≤ 10 := by omega
      rw [iT c, ck_e (by omega) (by omega), ck_e (by omega) (by omega), iF (show ¬ s + i * w = -1 by omega), ck_e (by omega) (by omega), hbeat, ck_e (by omega) (by omega), hnow, ck_e (by omega) (by omega), iF (show ¬ s + i * w = e + w from fun y => by have := hpos.1 y; omega), rr_isBarge, hV, hib.2.2.1]; simp only [bnd_e]
      by_cases hbg : isB V (s + i * w)
      · rw [bi_T hbg, iF (by decide)]
        obtain ⟨q, σ1, τ1, a1, a2, a3, a4, a5⟩ := mk_joint R hV D (tc := tc + i * gp) (tr := tr + i * gp) (s := s + i * w) (a := 0) hk (.inr hbg) (by omega) (by omega)
        rw [a1, a2]; simp only [bnd_e]
        by_cases hq : q = 0
        · rw [iT hq, iT hq]; exact ⟨σ1, τ1, .inl ⟨rfl, rfl⟩, a4, a5⟩
        · rw [iF hq, iF hq, ck_e (by omega) (by omega), ck_e (by omega) (by omega), ck_e (by rcases hw with ⟨rfl, h⟩ | ⟨rfl, h⟩ <;> omega) (by rcases hw with ⟨rfl, h⟩ | ⟨rfl, h⟩ <;> omega)]
          obtain ⟨σ', τ', b1, b2, b3⟩ := ih (i + 1) σ1 τ1 (a4.r R) (a4.v hV) a5 (by rw [a4.a 24 (by omega)]; exact hnow) (by rw [a4.a 24 (by omega)]; exact hbeat) (by omega) (by omega) (by omega) (by omega)
          rw [show tr + (i + 1) * gp = tr + i * gp + gp by rw [Int.add_mul]; omega, show s + (i + 1) * w = s + i * w + w by rw [Int.add_mul]; omega] at b1
          exact ⟨σ', τ', b1, a4.trans b2, b3⟩
      · rw [bi_F hbg, iT rfl, mk_no R (fun y => by rcases y.2 with z | z; omega; exact hbg z)]; simp only [bnd_e, if_true]
        exact ⟨σ, τ, .inl ⟨rfl, rfl⟩, Wf.refl, D⟩
    · rw [iF c, iT (hpos.2 (by omega))]; exact ⟨σ, τ, .inr ⟨rfl, rfl⟩, Wf.refl, D⟩
end

section
set_option linter.unusedVariables false
variable {σ τ : Sg} {V : Vw} {N : Int}

abbrev Wn (σ τ : Sg) (V : Vw) (tc tr : Int) : Prop := (RelN σ V) ∧ (vw τ = V) ∧ (Dr σ τ V) ∧ (σ 24 5 = tc ∧ 0 ≤ tc ∧ tc ≤ 2000000000) ∧ (tr = mnI tc 1000000) ∧ (σ 24 6 = τ 0 40 ∧ 1 ≤ τ 0 40 ∧ τ 0 40 ≤ 50)
theorem Wn.r {σ τ : Sg} {V : Vw} {tc tr : Int} (h : Wn σ τ V tc tr) : RelN σ V := h.1
theorem Wn.v {σ τ : Sg} {V : Vw} {tc tr : Int} (h : Wn σ τ V tc tr) : vw τ = V := h.2.1
theorem Wn.d {σ τ : Sg} {V : Vw} {tc tr : Int} (h : Wn σ τ V tc tr) : Dr σ τ V := h.2.2.1
theorem Wn.n {σ τ : Sg} {V : Vw} {tc tr : Int} (h : Wn σ τ V tc tr) : σ 24 5 = tc ∧ 0 ≤ tc ∧ tc ≤ 2000000000 := h.2.2.2.1
theorem Wn.t {σ τ : Sg} {V : Vw} {tc tr : Int} (h : Wn σ τ V tc tr) : tr = mnI tc 1000000 := h.2.2.2.2.1
theorem Wn.b {σ τ : Sg} {V : Vw} {tc tr : Int} (h : Wn σ τ V tc tr) : σ 24 6 = τ 0 40 ∧ 1 ≤ τ 0 40 ∧ τ 0 40 ≤ 50 := h.2.2.2.2.2
theorem Wn.mk {σ τ : Sg} {V : Vw} {tc tr : Int} (r : RelN σ V) (v : vw τ = V) (d : Dr σ τ V) (n : σ 24 5 = tc ∧ 0 ≤ tc ∧ tc ≤ 2000000000) (t : tr = mnI tc 1000000) (b : σ 24 6 = τ 0 40 ∧ 1 ≤ τ 0 40 ∧ τ 0 40 ≤ 50) : Wn σ τ V tc tr := ⟨r, v, d, n, t, b⟩
theorem mn_rel {tc tr : Int} (h : tr = mnI tc 1000000) (h0 : 0 ≤ tc) : (tc = tr ∨ (20000 < tc ∧ 20000 < tr)) ∧ 0 ≤ tr ∧ tr ≤ 1000000 := by
  have := mnI_e tc 1000000; omega
theorem cc_behind (R : RelN σ V) {s e b : Int} : fX6_areBehind s e b σ = some (bi ((isB V s ∧ isB V e) ∧ (0 ≤ b ∧ b ≤ 50))) := by
  unfold fX6_areBehind
  rw [cc_isBarge R]; simp only [bnd_e]
  by_cases h1 : isB V s
  · rw [bi_T h1, iF (by decide), cc_isBarge R]; simp only [bnd_e]
    by_cases h2 : isB V e
    · rw [bi_T h2, iF (by decide)]
      by_cases h3 : b < 0
      · rw [iT h3, bi_F (by omega)]
      · rw [iF h3]
        by_cases h4 : b ≤ 50
        · rw [iT h4, bi_T ⟨⟨h1, h2⟩, by omega⟩]
        · rw [iF h4, bi_F (by omega)]
    · rw [bi_F h2, bi_F (fun y => h2 y.1.2)]; rfl
  · rw [bi_F h1, bi_F (fun y => h1 y.1.1)]; rfl

theorem rr45 {d p len tc tr : Int} {w : Int → Int} (W : Wn σ τ V tc tr) (B : Byt σ τ d w len) (hp : 0 ≤ p) {o : Int} (h4 : ¬ o < 4) (ho : w p = o) (hl : p + 4 < 100) {y : Int} (hy : w (p + 4) = y) {k s th : Int} :
    (if bi (told V k) = 0 then some ((0 : Int), τ) else (fX12_word d p τ).bind fun q15 => if q15 < 4 then (if s = -1 then fX12_cuesBy_P68 d p tr k s th τ else (fX12_isBarge s τ).bind fun q119 => if q119 = 0 then some (0, τ) else fX12_cuesBy_P68 d p tr k s th τ) else ck (p + 4) fun v17 => (fX12_word d v17 τ).bind fun q19 => ck (q19 * (τ 0 40)) fun v21 => (fX12_isBarge s τ).bind fun q23 => if q23 = 0 then some (0, τ) else (fX12_isBarge th τ).bind fun q25 => if q25 = 0 then some (0, τ) else ck (p + 4) fun v27 => (fX12_word d v27 τ).bind fun q29 => (fX12_isIn q29 0 50 τ).bind fun q31 => if q31 = 0 then some (0, τ) else (fX12_word d p τ).bind fun q33 => if q33 = 5 then ((fX12_makes tr k s 0 τ).bind fun q60 => if q60.1 = 0 then some (0, q60.2) else ck (tr + v21) fun v62 => (fX12_makes v62 k th 0 q60.2).bind fun q64 => if q64.1 = 0 then some (0, q64.2) else some (1, q64.2)) else if th < s then fX12_cuesBy_P271 tr k s th v21 (-1) τ else fX12_cuesBy_P271 tr k s th v21 1 τ) =
    (if bi (told V k) = 0 then some ((0 : Int), τ) else if bi ((isB V s ∧ isB V th) ∧ (0 ≤ y ∧ y ≤ 50)) = 0 then some (0, τ) else if o = 5 then ((fX12_makes tr k s 0 τ).bind fun q60 => if q60.1 = 0 then some (0, q60.2) else ck (tr + y * τ 0 40) fun v62 => (fX12_makes v62 k th 0 q60.2).bind fun q64 => if q64.1 = 0 then some (0, q64.2) else some (1, q64.2)) else if th < s then fX12_cuesBy_P271 tr k s th (y * τ 0 40) (-1) τ else fX12_cuesBy_P271 tr k s th (y * τ 0 40) 1 τ) := by
  have hbt := W.b
  have r4 := (B.r (p + 4) (by omega) (by omega)).2.2
  rw [hy] at r4
  have wp : fX12_word d p τ = some o := by rw [rr_word B hp (by omega), ho]
  have w4 : fX12_word d (p + 4) τ = some y := by rw [rr_word B (by omega) (by omega), hy]
  have hmul : -6400 ≤ y * τ 0 40 ∧ y * τ 0 40 ≤ 6350 := by
    constructor
    · calc (-6400 : Int) ≤ -128 * τ 0 40 := by omega
        _ ≤ y * τ 0 40 := Int.mul_le_mul_of_nonneg_right r4.1 (by omega)
    · calc y * τ 0 40 ≤ 127 * τ 0 40 := Int.mul_le_mul_of_nonneg_right r4.2 (by omega)
        _ ≤ 6350 := by omega
  by_cases h1 : told V k
  · have z10 : ¬ (1 : Int) = 0 := by decide
    rw [bi_T h1, iF z10, iF z10, wp]; simp only [bnd_e]
    rw [iF h4, ck_e (by omega) (by omega), w4]; simp only [bnd_e]
    rw [ck_e (by omega) (by omega), rr_isBarge, W.v]; simp only [bnd_e]
    by_cases h2 : isB V s
    · rw [bi_T h2, iF z10, rr_isBarge, W.v]; simp only [bnd_e]
      by_cases h3 : isB V th
      · rw [bi_T h3, iF z10, ck_e (by omega) (by omega), w4]; simp only [bnd_e]
        by_cases h5 : 0 ≤ y ∧ y ≤ 50
        · rw [isIn_T h5.1 h5.2, bi_T ⟨⟨h2, h3⟩, h5⟩]; simp only [bnd_e]
        · rw [isIn_F h5, bi_F (fun z => h5 z.2)]; rfl
      · rw [bi_F h3, bi_F (fun z => h3 z.1.2)]; rfl
    · rw [bi_F h2, bi_F (fun z => h2 z.1.1)]; rfl
  · rw [bi_F h1]; rfl
theorem cb_joint {d p len o tc tr : Int} {w : Int → Int} (B : Byt σ τ d w len) (W : Wn σ τ V tc tr) (hp : 0 ≤ p) (ho : w p = o) (hoo : o = 1 ∨ o = 3 ∨ o = 4 ∨ o = 5) (hl : p + (if o < 4 then 4 else 5) ≤ len) :
    ∃ b σ' τ', fX6_makeCues (tpO d) p o σ = some (b, σ') ∧ fX12_cuesBy d p tr τ = some (b, τ') ∧ (b = 0 ∨ b = 1) ∧ Wf σ τ σ' τ' ∧ Dr σ' τ' V := by
  have hs := B.s
  obtain ⟨mr, tr0⟩ := mn_rel W.t W.n.2.1
  have hn := W.n
  have hbt := W.b
  have hl4 : p + 4 ≤ len := by split at hl <;> omega
  have r1 := (B.r (p + 1) (by omega) (by omega)).2.2
  have r2 := (B.r (p + 2) (by omega) (by omega)).2.2
  have r3 := (B.r (p + 3) (by omega) (by omega)).2.2
  obtain ⟨y4, hy4, hy5⟩ : ∃ y, fX9_numberAt (tpO d) (p + 4) σ = some y ∧ (4 ≤ o → y = w (p + 4) ∧ p + 4 < len) := by
    by_cases c : p + 4 < len
    · exact ⟨w (p + 4), cc_num B (by omega) c, fun _ => ⟨rfl, c⟩⟩
    · refine ⟨0, cc_num0 B (by omega), fun y => ?_⟩
      rw [iF (by omega)] at hl; omega
  unfold fX6_makeCues fX12_cuesBy
  rw [ck_e (by omega) (by omega), cc_num B (by omega) (by omega), ck_e (by omega) (by omega), rr_word B (by omega) (by omega)]; simp only [bnd_e]
  rw [ck_e (by omega) (by omega), cc_num B (by omega) (by omega), ck_e (by omega) (by omega), rr_word B (by omega) (by omega)]; simp only [bnd_e]
  rw [ck_e (by omega) (by omega), cc_num B (by omega) (by omega), ck_e (by omega) (by omega), rr_word B (by omega) (by omega)]; simp only [bnd_e]
  rw [ck_e (by omega) (by omega), hy4, rr_isKind, W.v]; simp only [bnd_e]
  generalize hk : w (p + 1) = k at r1 ⊢
  generalize hsb : w (p + 2) = s at r2 ⊢
  generalize hth : w (p + 3) = th at r3 ⊢
  have no : ∀ σ1 : Sg, σ1 = σ → ∃ b σ' τ', some ((0 : Int), σ) = some (b, σ') ∧ some ((0 : Int), τ) = some (b, τ') ∧ (b = 0 ∨ b = 1) ∧ Wf σ τ σ' τ' ∧ Dr σ' τ' V := fun _ _ => ⟨0, σ, τ, rfl, rfl, by omega, Wf.refl, W.d⟩
  have wp : fX12_word d p τ = some o := by rw [rr_word B hp (by omega), ho]
  rcases hoo with rfl | rfl | rfl | rfl
  · 
    rw [iT rfl, cc_isAngle]; simp only [bnd_e]
    by_cases hks : told V k ∧ (s = -1 ∨ isB V s)
    · obtain ⟨h1, h2⟩ := hks
      rw [bi_T h1, iF (show ¬ (1 : Int) = 0 by decide), wp]; simp only [bnd_e]
      rw [iT (show (1 : Int) < 4 by decide)]
      have p68 : ∀ X, (fX12_cuesBy_P68 d p tr k s th τ = X) → (if s = -1 then fX12_cuesBy_P68 d p tr k s th τ else (fX12_isBarge s τ).bind fun q119 => if q119 = 0 then some (0, τ) else fX12_cuesBy_P68 d p tr k s th τ) = X := by
        intro X hX
        by_cases c : s = -1
        · rw [iT c]; exact hX
        · rw [iF c, rr_isBarge, W.v, bi_T (h2.resolve_left c)]; simp only [bnd_e]; rw [iF (by decide)]; exact hX
      by_cases ha : -4 ≤ th ∧ th ≤ 4
      · rw [bi_T ha]
        obtain ⟨b, σ1, τ1, a1, a2, a3, a4, a5⟩ := mk_joint W.r W.v W.d h1 h2 ha mr
        have r68 : fX12_cuesBy_P68 d p tr k s th τ = some (b, τ1) := by
          unfold fX12_cuesBy_P68
          rw [wp]; simp only [bnd_e, if_true]; rw [isIn_T ha.1 ha.2]; simp only [bnd_e]; rw [iF (by decide), a2]; simp only [bnd_e]
          rcases a3 with rfl | rfl
          · rfl
          · rfl
        rw [p68 _ r68, iF (by decide), hn.1, a1]; simp only [bnd_e]
        refine ⟨b, σ1, τ1, ?_, rfl, a3, a4, a5⟩
        rcases a3 with rfl | rfl <;> rfl
      · rw [bi_F ha, iT rfl]
        have r68 : fX12_cuesBy_P68 d p tr k s th τ = some (0, τ) := by
          unfold fX12_cuesBy_P68
          rw [wp]; simp only [bnd_e, if_true]; rw [isIn_F ha]; rfl
        rw [p68 _ r68]; exact no σ rfl
    · have cn : (if bi (-4 ≤ th ∧ th ≤ 4) = 0 then some ((0 : Int), σ) else (fX6_makeCue (σ 24 5) k s th σ).bind fun q45 => if q45.1 = 0 then some (0, q45.2) else some (1, q45.2)) = some (0, σ) := by
        by_cases ha : -4 ≤ th ∧ th ≤ 4
        · rw [bi_T ha, iF (by decide), mk_no W.r hks]; rfl
        · rw [bi_F ha]; rfl
      rw [cn]
      by_cases h1 : told V k
      · have h2 : ¬ (s = -1 ∨ isB V s) := fun y => hks ⟨h1, y⟩
        rw [bi_T h1, iF (show ¬ (1 : Int) = 0 by decide), wp]; simp only [bnd_e]
        rw [iT (show (1 : Int) < 4 by decide), iF (fun y => h2 (.inl y)), rr_isBarge, W.v, bi_F (fun y => h2 (.inr y))]; exact no σ rfl
      · rw [bi_F h1]; exact no σ rfl
  · 
    rw [iF (show ¬ (3 : Int) = 1 by decide), iF (show ¬ (3 : Int) = 2 by decide), iT rfl]
    unfold fX6_makeFan
    by_cases hks : told V k ∧ (s = -1 ∨ isB V s)
    · obtain ⟨h1, h2⟩ := hks
      rw [bi_T h1, iF (show ¬ (1 : Int) = 0 by decide), wp]; simp only [bnd_e]
      rw [iT (show (3 : Int) < 4 by decide)]
      have p68 : ∀ X, (fX12_cuesBy_P68 d p tr k s th τ = X) → (if s = -1 then fX12_cuesBy_P68 d p tr k s th τ else (fX12_isBarge s τ).bind fun q119 => if q119 = 0 then some (0, τ) else fX12_cuesBy_P68 d p tr k s th τ) = X := by
        intro X hX
        by_cases c : s = -1
        · rw [iT c]; exact hX
        · rw [iF c, rr_isBarge, W.v, bi_T (h2.resolve_left c)]; simp only [bnd_e]; rw [iF (by decide)]; exact hX
      by_cases ha : 1 ≤ th ∧ th ≤ 5
      · rw [iF (show ¬ th < 1 by omega), iT ha.2]
        obtain ⟨σ1, τ1, a1, a2, a3⟩ := fan_joint h1 h2 ha mr fu 0 σ τ W.r W.v W.d hn.1 (by omega) (by omega) (by rw [fu_i]; omega) fu_pos
        rcases a1 with ⟨b1, b2⟩ | ⟨b1, b2⟩
        · have r68 : fX12_cuesBy_P68 d p tr k s th τ = some (0, τ1) := by
            unfold fX12_cuesBy_P68
            rw [wp]; simp only [bnd_e]; rw [iF (by decide), isIn_T ha.1 ha.2]; simp only [bnd_e]; rw [iF (by decide), b2]; rfl
          rw [p68 _ r68, b1]; exact ⟨0, σ1, τ1, rfl, rfl, by omega, a2, a3⟩
        · have r68 : fX12_cuesBy_P68 d p tr k s th τ = some (1, τ1) := by
            unfold fX12_cuesBy_P68
            rw [wp]; simp only [bnd_e]; rw [iF (by decide), isIn_T ha.1 ha.2]; simp only [bnd_e]; rw [iF (by decide), b2]; rfl
          rw [p68 _ r68, b1]; exact ⟨1, σ1, τ1, rfl, rfl, by omega, a2, a3⟩
      · have r68 : fX12_cuesBy_P68 d p tr k s th τ = some (0, τ) := by
          unfold fX12_cuesBy_P68
          rw [wp]; simp only [bnd_e]; rw [iF (by decide), isIn_F ha]; rfl
        rw [p68 _ r68]
        by_cases h0 : th < 1
        · rw [iT h0]; exact no σ rfl
        · rw [iF h0, iF (by omega)]; exact no σ rfl
    · have cn : ((if th < 1 then some ((0 : Int), σ) else if th ≤ 5 then (fX6_makeFan_L15 fu k s th 0 σ).bind (Sum.elim (fun a14 => some (0, a14)) (fun a16 => some (1, a16))) else some (0, σ)).bind fun q41 => some (q41.1, q41.2)) = some (0, σ) := by
        by_cases h0 : th < 1
        · rw [iT h0]; rfl
        · rw [iF h0]
          by_cases h5 : th ≤ 5
          · rw [iT h5]
            have : fX6_makeFan_L15 fu k s th 0 σ = some (.inl σ) := by
              rw [fu_e]; unfold fX6_makeFan_L15
              rw [iT (by omega), ck_e (by omega) (by omega), ck_e (by omega) (by omega), ck_e (by omega) (by omega), mk_no W.r hks]; rfl
            rw [this]; rfl
          · rw [iF h5]; rfl
      rw [cn]
      by_cases h1 : told V k
      · have h2 : ¬ (s = -1 ∨ isB V s) := fun y => hks ⟨h1, y⟩
        rw [bi_T h1, iF (show ¬ (1 : Int) = 0 by decide), wp]; simp only [bnd_e]
        rw [iT (show (3 : Int) < 4 by decide), iF (fun y => h2 (.inl y)), rr_isBarge, W.v, bi_F (fun y => h2 (.inr y))]; exact no σ rfl
      · rw [bi_F h1]; exact no σ rfl
  · 
    obtain ⟨rfl, h4⟩ := hy5 (by decide)
    have r4 := (B.r (p + 4) (by omega) (by omega)).2.2
    rw [iF (show ¬ (4 : Int) = 1 by decide), iF (show ¬ (4 : Int) = 2 by decide), iF (show ¬ (4 : Int) = 3 by decide), iT rfl]
    generalize hy : w (p + 4) = y at r4 ⊢
    rw [cc_behind W.r, rr45 W B hp (by decide) ho (by omega) hy]; simp only [bnd_e]
    by_cases hP : (isB V s ∧ isB V th) ∧ (0 ≤ y ∧ y ≤ 50)
    · obtain ⟨⟨h2, h3⟩, h5⟩ := hP
      have hs6 := h2.1; have ht6 := h3.1
      rw [bi_T ⟨⟨h2, h3⟩, h5⟩]; (try simp only [bnd_e, one0, two0, if_false, ↓reduceIte])
      by_cases h1 : told V k
      · rw [bi_T h1]; (try simp only [bnd_e, one0, two0, if_false, ↓reduceIte])
        rw [iF (show ¬ (4 : Int) = 5 by decide)]
        have go : ∀ w', ((w' = 1 ∧ s ≤ th) ∨ (w' = -1 ∧ th < s)) → ∃ b σ' τ', ((fX6_makeRun_P10 k s th y w' σ).bind fun q37 => if q37.1 = 0 then some ((0 : Int), q37.2) else some (1, q37.2)) = some (b, σ') ∧ fX12_cuesBy_P271 tr k s th (y * τ 0 40) w' τ = some (b, τ') ∧ (b = 0 ∨ b = 1) ∧ Wf σ τ σ' τ' ∧ Dr σ' τ' V := by
          intro w' hw
          have hab : 0 ≤ abI (th - s) ∧ abI (th - s) ≤ 5 := by unfold abI; split <;> omega
          obtain ⟨σ1, τ1, a1, a2, a3⟩ := run_joint h1 hs6 ht6 h5 hbt.2 rfl hw (L := abI (th - s)) rfl mr hn.2 tr0 fu 0 σ τ W.r W.v W.d hn.1 hbt.1 (by omega) (by omega) (by rw [fu_i]; omega) fu_pos
          rw [show tr + 0 * (y * τ 0 40) = tr by omega, show s + 0 * w' = s by omega] at a1
          unfold fX6_makeRun_P10 fX12_cuesBy_P271
          rw [ck_e (by omega) (by omega), ck_e (by omega) (by omega)]
          rcases a1 with ⟨b1, b2⟩ | ⟨b1, b2⟩
          · rw [b1, b2]; exact ⟨0, σ1, τ1, rfl, rfl, by omega, a2, a3⟩
          · rw [b1, b2]; exact ⟨1, σ1, τ1, rfl, rfl, by omega, a2, a3⟩
        unfold fX6_makeRun
        by_cases c : s ≤ th
        · rw [iT c, iF (show ¬ th < s by omega)]; exact go 1 (.inl ⟨rfl, c⟩)
        · rw [iF c, iT (show th < s by omega)]; exact go (-1) (.inr ⟨rfl, by omega⟩)
      · have run0 : fX6_makeRun k s th y σ = some (0, σ) := by
          have hab : 0 ≤ abI (th - s) ∧ abI (th - s) ≤ 5 := by unfold abI; split <;> omega
          have p10 : ∀ w', fX6_makeRun_P10 k s th y w' σ = some (0, σ) := fun w' => by
            unfold fX6_makeRun_P10
            rw [ck_e (by omega) (by omega), ck_e (by omega) (by omega)]
            have : fX6_makeRun_L23 fu k s y w' (abI (th - s)) 0 σ = some (.inl σ) := by
              rw [fu_e]; unfold fX6_makeRun_L23
              rw [iT hab.1, show (0 : Int) * w' = 0 by omega, ck_e (by omega) (by omega), ck_e (by omega) (by omega), iF (show ¬ s + 0 = -1 by omega), show (0 : Int) * y = 0 by omega, ck_e (by omega) (by omega), show (0 : Int) * σ 24 6 = 0 by omega, ck_e (by omega) (by omega), ck_e (by omega) (by omega), mk_no W.r (fun z => h1 z.1)]; rfl
            rw [this]; rfl
          unfold fX6_makeRun
          by_cases c : s ≤ th
          · rw [iT c]; exact p10 1
          · rw [iF c]; exact p10 (-1)
        rw [run0, bi_F h1]; exact no σ rfl
    · rw [bi_F hP]; (try simp only [bnd_e, one0, two0, if_false, ↓reduceIte])
      by_cases h1 : told V k
      · rw [bi_T h1]; (try simp only [bnd_e, one0, two0, if_false, ↓reduceIte]); exact no σ rfl
      · rw [bi_F h1]; exact no σ rfl
  · 
    obtain ⟨rfl, h4⟩ := hy5 (by decide)
    have r4 := (B.r (p + 4) (by omega) (by omega)).2.2
    rw [iF (show ¬ (5 : Int) = 1 by decide), iF (show ¬ (5 : Int) = 2 by decide), iF (show ¬ (5 : Int) = 3 by decide), iF (show ¬ (5 : Int) = 4 by decide), iT rfl]
    generalize hy : w (p + 4) = y at r4 ⊢
    rw [cc_behind W.r, rr45 W B hp (by decide) ho (by omega) hy]; simp only [bnd_e]
    by_cases hP : (isB V s ∧ isB V th) ∧ (0 ≤ y ∧ y ≤ 50)
    · obtain ⟨⟨h2, h3⟩, h5⟩ := hP
      rw [bi_T ⟨⟨h2, h3⟩, h5⟩]; (try simp only [bnd_e, one0, two0, if_false, ↓reduceIte])
      by_cases h1 : told V k
      · rw [bi_T h1, hn.1]; (try simp only [bnd_e, one0, two0, if_false, ↓reduceIte])
        have hmul : 0 ≤ y * τ 0 40 ∧ y * τ 0 40 ≤ 2500 := by
          refine ⟨Int.mul_nonneg h5.1 (by omega), ?_⟩
          calc y * τ 0 40 ≤ 50 * τ 0 40 := Int.mul_le_mul_of_nonneg_right h5.2 (by omega)
            _ ≤ 2500 := by omega
        obtain ⟨b, σ1, τ1, a1, a2, a3, a4, a5⟩ := mk_joint W.r W.v W.d (a := 0) h1 (.inr h2) (by omega) mr
        rw [a1, a2]; simp only [bnd_e]
        rcases a3 with rfl | rfl
        · exact ⟨0, σ1, τ1, rfl, rfl, by omega, a4, a5⟩
        · obtain ⟨b, σ2, τ2, d1, d2, d3, d4, d5⟩ := mk_joint (a4.r W.r) (a4.v W.v) a5 (tc := tc + y * τ 0 40) (tr := tr + y * τ 0 40) (a := 0) h1 (.inr h3) (by omega) (by omega)
          rw [iF (show ¬ (1 : Int) = 0 by decide), iF (show ¬ (1 : Int) = 0 by decide), a4.a 24 (by omega), hbt.1, hn.1, ck_e (by omega) (by omega), ck_e (by omega) (by omega), ck_e (by omega) (by omega), d1, d2]; simp only [bnd_e]
          rcases d3 with rfl | rfl
          · exact ⟨0, σ2, τ2, rfl, rfl, by omega, a4.trans d4, d5⟩
          · exact ⟨1, σ2, τ2, rfl, rfl, by omega, a4.trans d4, d5⟩
      · rw [mk_no W.r (fun z => h1 z.1), bi_F h1]; exact no σ rfl
    · rw [bi_F hP]; (try simp only [bnd_e, one0, two0, if_false, ↓reduceIte])
      by_cases h1 : told V k
      · rw [bi_T h1]; (try simp only [bnd_e, one0, two0, if_false, ↓reduceIte]); exact no σ rfl
      · rw [bi_F h1]; exact no σ rfl
end

section
set_option linter.unusedVariables false
variable {σ τ : Sg} {V : Vw} {N : Int}

def olen (o : Int) : Int := if o = 1 ∨ o = 3 then 4 else if o = 4 ∨ o = 5 then 5 else if o = 2 ∨ o = 6 ∨ o = 8 then 2 else 1
theorem olen_rng (o : Int) : 1 ≤ olen o ∧ olen o ≤ 5 := by unfold olen; (repeat' split) <;> omega

def mend (w : Int → Int) (len : Int) : Nat → Int → Nat → Int
  | 0, _, _ => 101
  | f + 1, p, k =>
    if (0 ≤ p ∧ p < len) ∧ (0 ≤ w p ∧ w p ≤ 8) then
      (if w p = 7 then (match k with | 0 => p + 1 | k + 1 => mend w len f (p + 1) k)
       else if w p = 6 then mend w len f (p + 2) (k + 1) else mend w len f (p + olen (w p)) k)
    else 101
theorem mend_fuel (w : Int → Int) {len : Int} (hl : len ≤ 100) : ∀ (f f' : Nat) (p : Int) (k : Nat), 0 ≤ p → 101 - p ≤ f → 101 - p ≤ f' → mend w len f p k = mend w len f' p k := by
  intro f
  induction f with
  | zero =>
    intro f' p k h0 h1 h2
    cases f' with
    | zero => rfl
    | succ f' => unfold mend; rw [if_neg (by omega)]
  | succ f ih =>
    intro f' p k h0 h1 h2
    cases f' with
    | zero => unfold mend; rw [if_neg (by omega)]
    | succ f' =>
      unfold mend
      have ho := olen_rng (w p)
      by_cases c : (0 ≤ p ∧ p < len) ∧ (0 ≤ w p ∧ w p ≤ 8)
      · rw [if_pos c, if_pos c]
        by_cases c7 : w p = 7
        · rw [if_pos c7, if_pos c7]
          cases k with
          | zero => rfl
          | succ k => exact ih f' (p + 1) k (by omega) (by omega) (by omega)
        · rw [if_neg c7, if_neg c7]
          by_cases c6 : w p = 6
          · rw [if_pos c6, if_pos c6]; exact ih f' (p + 2) (k + 1) (by omega) (by omega) (by omega)
          · rw [if_neg c6, if_neg c6]; exact ih f' (p + olen (w p)) k (by omega) (by omega) (by omega)
      · rw [if_neg c, if_neg c]
def EE (w : Int → Int) (len : Int) (p : Int) (k : Nat) : Int := mend w len 101 p k
theorem EE_step (w : Int → Int) {len : Int} (hl : len ≤ 100) {p : Int} (hp : 0 ≤ p ∧ p < len) (hw : 0 ≤ w p ∧ w p ≤ 8) (k : Nat) :
    EE w len p k = (if w p = 7 then (match k with | 0 => p + 1 | k + 1 => EE w len (p + 1) k) else if w p = 6 then EE w len (p + 2) (k + 1) else EE w len (p + olen (w p)) k) := by
  have ho := olen_rng (w p)
  unfold EE
  rw [show (101 : Nat) = 100 + 1 from rfl]
  conv => lhs; unfold mend
  rw [if_pos ⟨hp, hw⟩]
  split
  · cases k with
    | zero => rfl
    | succ k => exact mend_fuel w hl 100 (100 + 1) (p + 1) k (by omega) (by omega) (by omega)
  · split
    · exact mend_fuel w hl 100 (100 + 1) (p + 2) (k + 1) (by omega) (by omega) (by omega)
    · exact mend_fuel w hl 100 (100 + 1) _ k (by omega) (by omega) (by omega)
theorem EE_out (w : Int → Int) {len : Int} {p : Int} (h : ¬ ((0 ≤ p ∧ p < len) ∧ (0 ≤ w p ∧ w p ≤ 8))) (k : Nat) : EE w len p k = 101 := by
  unfold EE; rw [show (101 : Nat) = 100 + 1 from rfl]; unfold mend; rw [if_neg h]

theorem EE_rng (w : Int → Int) {len : Int} (hl : len ≤ 100) : ∀ (n : Nat) (p : Int) (k : Nat), 0 ≤ p → p ≤ 100 → 101 - p ≤ n → p < EE w len p k ∧ EE w len p k ≤ 101 := by
  intro n
  induction n with
  | zero => intro p k h0 h1 h2; omega
  | succ n ih =>
    intro p k h0 h1 h2
    by_cases c : (0 ≤ p ∧ p < len) ∧ (0 ≤ w p ∧ w p ≤ 8)
    · rw [EE_step w hl c.1 c.2]
      have ho := olen_rng (w p)
      have nx : ∀ q j, p < q → (q ≤ 100 → q < EE w len q j ∧ EE w len q j ≤ 101) → p < EE w len q j ∧ EE w len q j ≤ 101 := by
        intro q j hq H
        by_cases e : q ≤ 100
        · have := H e; omega
        · rw [EE_out w (by omega)]; omega
      split
      · cases k with
        | zero => simp only; omega
        | succ k => exact nx _ _ (by omega) (fun e => ih _ _ (by omega) e (by omega))
      · split
        · exact nx _ _ (by omega) (fun e => ih _ _ (by omega) e (by omega))
        · exact nx _ _ (by omega) (fun e => ih _ _ (by omega) e (by omega))
    · rw [EE_out w c]; omega
theorem EE_nest (w : Int → Int) {len : Int} (hl : len ≤ 100) : ∀ (n : Nat) (p : Int) (i k : Nat), 0 ≤ p → 101 - p ≤ n → EE w len p (i + k + 1) = EE w len (EE w len p i) k := by
  intro n
  induction n with
  | zero =>
    intro p i k h0 h2
    have e1 := EE_out w (len := len) (p := p) (by omega)
    rw [e1 (i + k + 1), e1 i]; exact (EE_out w (by omega) k).symm
  | succ n ih =>
    intro p i k h0 h2
    by_cases c : (0 ≤ p ∧ p < len) ∧ (0 ≤ w p ∧ w p ≤ 8)
    · rw [EE_step w hl c.1 c.2, EE_step w hl c.1 c.2 i]
      have ho := olen_rng (w p)
      by_cases c7 : w p = 7
      · rw [if_pos c7, if_pos c7]
        cases i with
        | zero => simp only [Nat.zero_add]
        | succ i =>
          show EE w len (p + 1) (i + 1 + k) = EE w len (EE w len (p + 1) i) k
          rw [show i + 1 + k = i + k + 1 by omega]; exact ih (p + 1) i k (by omega) (by omega)
      · rw [if_neg c7, if_neg c7]
        by_cases c6 : w p = 6
        · rw [if_pos c6, if_pos c6, show i + k + 1 + 1 = (i + 1) + k + 1 by omega]; exact ih (p + 2) (i + 1) k (by omega) (by omega)
        · rw [if_neg c6, if_neg c6]; exact ih _ i k (by omega) (by omega)
    · rw [EE_out w c, EE_out w c, EE_out w (by omega)]

abbrev Stk : Type := List (Int × Int)
def wgt : Nat → Int
  | 0 => 729
  | 1 => 81
  | 2 => 9
  | _ => 1

def TT (w : Int → Int) (len : Int) : Int → Stk → Int
  | p, [] => 729 * p
  | p, (s, t) :: r => TT w len s r + wgt (r.length + 1) * ((8 - t) * (EE w len s 0 - s) + (p - s))

def agr (w : Int → Int) (len : Int) (p : Int) : Nat → Stk → Prop
  | _, [] => True
  | j, (s, _) :: r => EE w len p j = EE w len s 0 ∧ agr w len p (j + 1) r
def god (w : Int → Int) (len : Int) : Stk → Prop
  | [] => True
  | (s, t) :: r => (0 ≤ t ∧ t ≤ 8) ∧ (0 ≤ s ∧ s ≤ 100) ∧ agr w len s 1 r ∧ god w len r
theorem TT_add (w : Int → Int) (len p x : Int) : ∀ (st : Stk), TT w len (p + x) st = TT w len p st + wgt st.length * x
  | [] => by show 729 * (p + x) = 729 * p + 729 * x; omega
  | (s, t) :: r => by
    show TT w len s r + wgt (r.length + 1) * ((8 - t) * (EE w len s 0 - s) + (p + x - s)) = TT w len s r + wgt (r.length + 1) * ((8 - t) * (EE w len s 0 - s) + (p - s)) + wgt (r.length + 1) * x
    rw [Int.add_assoc, ← Int.mul_add]; congr 2; omega
theorem wgt_pos (n : Nat) : 1 ≤ wgt n := by
  match n with
  | 0 => decide
  | 1 => decide
  | 2 => decide
  | (n + 3) => exact Int.le_refl _
theorem wgt_9 {n : Nat} (h : n < 3) : wgt n = 9 * wgt (n + 1) := by
  have : n = 0 ∨ n = 1 ∨ n = 2 := by omega
  rcases this with rfl | rfl | rfl <;> rfl
theorem agr_move {w : Int → Int} {len p q : Int} (i : Nat) : ∀ (st : Stk) (j : Nat), (∀ k : Nat, EE w len p (k + i) = EE w len q k) → agr w len p (j + i) st → agr w len q j st
  | [], _, _, _ => trivial
  | (s, t) :: r, j, h, ⟨h1, h2⟩ => ⟨by rw [← h j]; exact h1, agr_move i r (j + 1) h (by rw [show j + 1 + i = j + i + 1 by omega]; exact h2)⟩
theorem TT_up {w : Int → Int} {len : Int} (hl : len ≤ 100) : ∀ (st : Stk) (p : Int), st.length ≤ 3 → 0 ≤ p → p ≤ 101 → agr w len p 0 st → god w len st → TT w len p st ≤ 73629
  | [], p, _, h0, h1, _, _ => by show 729 * p ≤ 73629; omega
  | (s, t) :: r, p, hn, h0, h1, ⟨ha, hb⟩, ⟨ht, hs, hag, hg⟩ => by
    simp only [List.length_cons] at hn
    have re := EE_rng w hl 101 s 0 hs.1 hs.2 (by omega)
    have ih := TT_up hl r (EE w len s 0) (by omega) (by omega) re.2 (by
      rw [← ha]
      exact agr_move 1 r 0 (fun k => by rw [show k + 1 = 0 + k + 1 by omega]; exact EE_nest w hl 101 p 0 k h0 (by omega)) hb) hg
    have e := TT_add w len s (EE w len s 0 - s) r
    rw [show s + (EE w len s 0 - s) = EE w len s 0 by omega, wgt_9 (by omega)] at e
    show TT w len s r + wgt (r.length + 1) * ((8 - t) * (EE w len s 0 - s) + (p - s)) ≤ 73629
    have hp : p ≤ EE w len s 0 := by
      rw [← ha]
      by_cases c : p ≤ 100
      · exact Int.le_of_lt (EE_rng w hl 101 p 0 h0 c (by omega)).1
      · rw [EE_out w (by omega)]; omega
    have h8 : (8 - t) * (EE w len s 0 - s) ≤ 8 * (EE w len s 0 - s) := Int.mul_le_mul_of_nonneg_right (by omega) (by omega)
    have : wgt (r.length + 1) * ((8 - t) * (EE w len s 0 - s) + (p - s)) ≤ wgt (r.length + 1) * (9 * (EE w len s 0 - s)) := Int.mul_le_mul_of_nonneg_left (by omega) (by have := wgt_pos (r.length + 1); omega)
    rw [show wgt (r.length + 1) * (9 * (EE w len s 0 - s)) = 9 * wgt (r.length + 1) * (EE w len s 0 - s) by rw [← Int.mul_assoc, Int.mul_comm (wgt _) 9]] at this
    omega
end

section
set_option linter.unusedVariables false
variable {σ τ : Sg} {V : Vw} {N : Int}
def stR (σ τ : Sg) : Stk → Prop
  | [] => True
  | (s, t) :: r => (σ 30 r.length = s ∧ τ 32 r.length = s ∧ σ 31 r.length = t ∧ τ 33 r.length = t + 1) ∧ stR σ τ r
theorem stR_congr {σ' τ' : Sg} : ∀ (st : Stk), (∀ k : Int, k < st.length → σ' 30 k = σ 30 k ∧ τ' 32 k = τ 32 k ∧ σ' 31 k = σ 31 k ∧ τ' 33 k = τ 33 k) → stR σ τ st → stR σ' τ' st
  | [], _, _ => trivial
  | (s, t) :: r, h, ⟨h1, h2⟩ => by
    obtain ⟨a, b, c, e⟩ := h r.length (by simp only [List.length_cons]; omega)
    exact ⟨by rw [a, b, c, e]; exact h1, stR_congr r (fun k hk => h k (by simp only [List.length_cons]; omega)) h2⟩
abbrev Fr (σ0 τ0 σ τ : Sg) : Prop := (∀ j, ¬ (24 ≤ j ∧ j ≤ 31) → σ j = σ0 j) ∧ (∀ j, j ≠ 0 → ¬ (18 ≤ j ∧ j ≤ 21) → j ≠ 32 → j ≠ 33 → τ j = τ0 j) ∧ (∀ p, p ≠ 39 → p ≠ 40 → τ 0 p = τ0 0 p)
theorem Fr.a {σ0 τ0 σ τ : Sg} (h : Fr σ0 τ0 σ τ) : ∀ j, ¬ (24 ≤ j ∧ j ≤ 31) → σ j = σ0 j := h.1
theorem Fr.b {σ0 τ0 σ τ : Sg} (h : Fr σ0 τ0 σ τ) : ∀ j, j ≠ 0 → ¬ (18 ≤ j ∧ j ≤ 21) → j ≠ 32 → j ≠ 33 → τ j = τ0 j := h.2.1
theorem Fr.c {σ0 τ0 σ τ : Sg} (h : Fr σ0 τ0 σ τ) : ∀ p, p ≠ 39 → p ≠ 40 → τ 0 p = τ0 0 p := h.2.2
theorem Fr.mk {σ0 τ0 σ τ : Sg} (a : ∀ j, ¬ (24 ≤ j ∧ j ≤ 31) → σ j = σ0 j) (b : ∀ j, j ≠ 0 → ¬ (18 ≤ j ∧ j ≤ 21) → j ≠ 32 → j ≠ 33 → τ j = τ0 j) (c : ∀ p, p ≠ 39 → p ≠ 40 → τ 0 p = τ0 0 p) : Fr σ0 τ0 σ τ := ⟨a, b, c⟩
abbrev Ws (σ0 τ0 σ τ : Sg) (V : Vw) (w : Int → Int) (len p : Int) (st : Stk) (tc tr : Int) : Prop := (Fr σ0 τ0 σ τ) ∧ (Dr σ τ V) ∧ (σ 24 5 = tc ∧ 0 ≤ tc) ∧ (tr = mnI tc 1000000) ∧ (σ 24 6 = τ 0 40 ∧ 1 ≤ τ 0 40 ∧ τ 0 40 ≤ 50) ∧ (0 ≤ p ∧ p ≤ len) ∧ (σ 24 4 = st.length ∧ st.length ≤ 3) ∧ (stR σ τ st) ∧ (agr w len p 0 st) ∧ (god w len st) ∧ (tc ≤ 2500 * TT w len p st)
theorem Ws.f {σ0 τ0 σ τ : Sg} {V : Vw} {w : Int → Int} {len p : Int} {st : Stk} {tc tr : Int} (h : Ws σ0 τ0 σ τ V w len p st tc tr) : Fr σ0 τ0 σ τ := h.1
theorem Ws.d {σ0 τ0 σ τ : Sg} {V : Vw} {w : Int → Int} {len p : Int} {st : Stk} {tc tr : Int} (h : Ws σ0 τ0 σ τ V w len p st tc tr) : Dr σ τ V := h.2.1
theorem Ws.n {σ0 τ0 σ τ : Sg} {V : Vw} {w : Int → Int} {len p : Int} {st : Stk} {tc tr : Int} (h : Ws σ0 τ0 σ τ V w len p st tc tr) : σ 24 5 = tc ∧ 0 ≤ tc := h.2.2.1
theorem Ws.t {σ0 τ0 σ τ : Sg} {V : Vw} {w : Int → Int} {len p : Int} {st : Stk} {tc tr : Int} (h : Ws σ0 τ0 σ τ V w len p st tc tr) : tr = mnI tc 1000000 := h.2.2.2.1
theorem Ws.bt {σ0 τ0 σ τ : Sg} {V : Vw} {w : Int → Int} {len p : Int} {st : Stk} {tc tr : Int} (h : Ws σ0 τ0 σ τ V w len p st tc tr) : σ 24 6 = τ 0 40 ∧ 1 ≤ τ 0 40 ∧ τ 0 40 ≤ 50 := h.2.2.2.2.1
theorem Ws.hp {σ0 τ0 σ τ : Sg} {V : Vw} {w : Int → Int} {len p : Int} {st : Stk} {tc tr : Int} (h : Ws σ0 τ0 σ τ V w len p st tc tr) : 0 ≤ p ∧ p ≤ len := h.2.2.2.2.2.1
theorem Ws.dp {σ0 τ0 σ τ : Sg} {V : Vw} {w : Int → Int} {len p : Int} {st : Stk} {tc tr : Int} (h : Ws σ0 τ0 σ τ V w len p st tc tr) : σ 24 4 = st.length ∧ st.length ≤ 3 := h.2.2.2.2.2.2.1
theorem Ws.sk {σ0 τ0 σ τ : Sg} {V : Vw} {w : Int → Int} {len p : Int} {st : Stk} {tc tr : Int} (h : Ws σ0 τ0 σ τ V w len p st tc tr) : stR σ τ st := h.2.2.2.2.2.2.2.1
theorem Ws.ag {σ0 τ0 σ τ : Sg} {V : Vw} {w : Int → Int} {len p : Int} {st : Stk} {tc tr : Int} (h : Ws σ0 τ0 σ τ V w len p st tc tr) : agr w len p 0 st := h.2.2.2.2.2.2.2.2.1
theorem Ws.gd {σ0 τ0 σ τ : Sg} {V : Vw} {w : Int → Int} {len p : Int} {st : Stk} {tc tr : Int} (h : Ws σ0 τ0 σ τ V w len p st tc tr) : god w len st := h.2.2.2.2.2.2.2.2.2.1
theorem Ws.tT {σ0 τ0 σ τ : Sg} {V : Vw} {w : Int → Int} {len p : Int} {st : Stk} {tc tr : Int} (h : Ws σ0 τ0 σ τ V w len p st tc tr) : tc ≤ 2500 * TT w len p st := h.2.2.2.2.2.2.2.2.2.2
theorem Ws.mk {σ0 τ0 σ τ : Sg} {V : Vw} {w : Int → Int} {len p : Int} {st : Stk} {tc tr : Int} (f : Fr σ0 τ0 σ τ) (d : Dr σ τ V) (n : σ 24 5 = tc ∧ 0 ≤ tc) (t : tr = mnI tc 1000000) (bt : σ 24 6 = τ 0 40 ∧ 1 ≤ τ 0 40 ∧ τ 0 40 ≤ 50) (hp : 0 ≤ p ∧ p ≤ len) (dp : σ 24 4 = st.length ∧ st.length ≤ 3) (sk : stR σ τ st) (ag : agr w len p 0 st) (gd : god w len st) (tT : tc ≤ 2500 * TT w len p st) : Ws σ0 τ0 σ τ V w len p st tc tr := ⟨f, d, n, t, bt, hp, dp, sk, ag, gd, tT⟩
theorem Ws.wn {σ0 τ0 : Sg} {w : Int → Int} {len p tc tr : Int} {st : Stk} (W : Ws σ0 τ0 σ τ V w len p st tc tr) (hl : len ≤ 100) (R0 : RelN σ0 V) (hV0 : vw τ0 = V) : Wn σ τ V tc tr := by
  have up := TT_up hl st p W.dp.2 W.hp.1 (by have := W.hp.2; omega) W.ag W.gd
  refine ⟨RelN_congr R0 (fun j hj => W.f.a j (by simp only [List.mem_cons, List.not_mem_nil, or_false] at hj; omega)), ?_, W.d, ⟨W.n.1, W.n.2, by have := W.tT; omega⟩, W.t, W.bt⟩
  rw [← hV0]
  exact vw_congr (fun j hj => W.f.b j (ne_of_mem hj (by decide)) (by simp only [List.mem_cons, List.not_mem_nil, or_false] at hj; omega) (ne_of_mem hj (by decide)) (ne_of_mem hj (by decide))) (W.f.c _ (by decide) (by decide)) (W.f.c _ (by decide) (by decide)) (W.f.c _ (by decide) (by decide)) (W.f.c _ (by decide) (by decide))
def wC (n t : Nat) (p x : Int) (σ : Sg) : Option (Int × Sg) := (fX6_firstFault_L28 n t p x σ).bind (Sum.elim (fun a17 =>
    some ((-1), a17)) (Sum.elim (fun a19 =>
    some (a19.1, a19.2)) (fun a22 =>
    some (a22.1, a22.2))))
def wR (n : Nat) (d x2 x3 k : Int) (τ : Sg) : Option (Int × Sg) := (fX12_writes_L18 n d x2 x3 k τ).bind (Sum.elim (fun a179 =>
    some (a179.1, a179.2)) (Sum.elim (fun a182 =>
    if a182.1 = 0 then (
      some ((-1), a182.2.2))
    else (
      some (a182.2.1, a182.2.2))) (Sum.elim (fun a187 =>
    some (a187.1, a187.2)) (Sum.elim (fun a190 =>
    some (a190.1, a190.2)) (Sum.elim (fun a193 =>
    some (a193.1, a193.2)) (Sum.elim (fun a196 =>
    some (a196.1, a196.2)) (Sum.elim (fun a199 =>
    some (a199.1, a199.2)) (fun a202 =>
    rd a202 29 6 d fun v204 =>
    some (v204, a202)))))))))
theorem ordLen_e {o : Int} (h : 0 ≤ o ∧ o ≤ 8) : ordLen o.toNat = olen o := by
  have : o = 0 ∨ o = 1 ∨ o = 2 ∨ o = 3 ∨ o = 4 ∨ o = 5 ∨ o = 6 ∨ o = 7 ∨ o = 8 := by omega
  rcases this with rfl | rfl | rfl | rfl | rfl | rfl | rfl | rfl | rfl <;> rfl
theorem numbers_e {o : Int} (h : 0 ≤ o ∧ o ≤ 8) : fX12_numbers o τ = some (olen o - 1) := by
  have : o = 0 ∨ o = 1 ∨ o = 2 ∨ o = 3 ∨ o = 4 ∨ o = 5 ∨ o = 6 ∨ o = 7 ∨ o = 8 := by omega
  rcases this with rfl | rfl | rfl | rfl | rfl | rfl | rfl | rfl | rfl <;> rfl

theorem wC_step {n t : Nat} {p x : Int} (hx : 0 ≤ x ∧ x < 1000000) {q : Int} {σ' : Sg} (h : fX6_follow t p σ = some (q, σ')) : wC (n + 1) t p x σ = if q = -1 then some (-1, σ') else if q = -2 then some (p, σ') else wC n t q (x + 1) σ' := by
  unfold wC
  conv => lhs; unfold fX6_firstFault_L28
  rw [iT hx.2, h]; simp only [bnd_e]
  by_cases c1 : q = -1
  · rw [iT c1, iT c1]; rfl
  · rw [iF c1, iF c1]
    by_cases c2 : q = -2
    · rw [iT c2, iT c2]; rfl
    · rw [iF c2, iF c2, ck_e (by omega) (by omega)]

theorem wR_step {d len p tr dp : Int} {w : Int → Int} (B : Byt σ τ d w len) {n : Nat} (hp : 0 ≤ p ∧ p < len) : fX12_writes_L18 (n + 1) d tr dp p τ = if (0 ≤ w p ∧ w p ≤ 8) ∧ p + olen (w p) ≤ len then fX12_writes_L18P91 (fX12_writes_L18 n) d tr dp p (w p) (olen (w p) - 1) (if olen (w p) = 1 then 0 else w (p + 1)) τ else some (.inl (p, τ)) := by
  have hs := B.s; have hd := B.hd
  have ho := olen_rng (w p)
  have hw := (B.r p hp.1 (by omega)).2.2
  conv => lhs; unfold fX12_writes_L18
  rw [rd_e hd.1 (by omega), hs.1, iT hp.2, rr_word B hp.1 (by omega)]; simp only [bnd_e]
  by_cases c : 0 ≤ w p ∧ w p ≤ 8
  · rw [numbers_e c, isIn_T c.1 c.2]; simp only [bnd_e]
    rw [iF (by decide), ck_e (by omega) (by omega), rd_e hd.1 (by omega), hs.1]
    by_cases c2 : p + olen (w p) ≤ len
    · rw [iT (show p + (olen (w p) - 1) < len by omega), iT (show (0 ≤ w p ∧ w p ≤ 8) ∧ p + olen (w p) ≤ len from ⟨c, c2⟩)]
      by_cases c3 : olen (w p) = 1
      · rw [iT (show olen (w p) - 1 ≤ 0 by omega), iT c3]
      · rw [iF (show ¬ olen (w p) - 1 ≤ 0 by omega), iF c3, ck_e (by omega) (by omega), rr_word B (by omega) (by omega)]; simp only [bnd_e]
    · rw [iF (show ¬ p + (olen (w p) - 1) < len by omega), iF (fun y => c2 y.2)]
  · obtain ⟨z, hz⟩ : ∃ z, fX12_numbers (w p) τ = some z := by
      unfold fX12_numbers fX12_numbers_P10 fX12_numbers_P24 fX12_numbers_P45
      split
      · exact ⟨_, rfl⟩
      split
      · exact ⟨_, rfl⟩
      split
      · exact ⟨_, rfl⟩
      split
      · exact ⟨_, rfl⟩
      split
      · exact ⟨_, rfl⟩
      split
      · exact ⟨_, rfl⟩
      split <;> exact ⟨_, rfl⟩
    rw [hz, isIn_F c, iF (fun y => c y.1)]; rfl
theorem rdO_e {α : Type} {a : Int} {K : Int → Option α} (h0 : 0 ≤ a) (h1 : a < 9) : rdO a K = K (ordLen a.toNat) := if_pos ⟨h0, h1⟩
theorem fol_no {d len p : Int} {w : Int → Int} (B : Byt σ τ d w len) (h0 : 0 ≤ p) (h : ¬ (p < len ∧ (0 ≤ w p ∧ w p ≤ 8) ∧ p + olen (w p) ≤ len)) (hp : p ≤ len) : fX6_follow (tpO d) p σ = some (-2, σ) := by
  have hs := B.s; have hc := B.c
  have ho := olen_rng (w p)
  unfold fX6_follow
  by_cases c : p < len
  · have hw := (B.r p h0 (by omega)).2.2
    rw [cc_num B h0 c, hasPlace_e, bi_T (by omega)]; simp only [bnd_e]
    rw [iF (show ¬ (1 : Int) = 0 by decide)]
    by_cases c0 : w p < 0
    · rw [iT c0]
    · rw [iF c0]
      by_cases c8 : w p < 9
      · rw [iT c8]
        rw [rdO_e (by omega) (by omega), ordLen_e (by omega), ck_e (by omega) (by omega), hc, iF (fun y => h ⟨c, by omega, y⟩)]
      · rw [iF c8]
  · rw [cc_num0 B (by omega), hasPlace_e, bi_F (by omega)]; rfl
theorem fol_yes {d len p : Int} {w : Int → Int} (B : Byt σ τ d w len) (h0 : 0 ≤ p) (c : p < len) (h8 : 0 ≤ w p ∧ w p ≤ 8) (hl : p + olen (w p) ≤ len) : ∃ y, (p + 1 < len → y = w (p + 1)) ∧ (-128 ≤ y ∧ y ≤ 127) ∧
    fX6_follow (tpO d) p σ = (if w p = 0 then (if σ 24 4 = 0 then some (-1, σ) else some (-2, σ)) else if w p = 2 then ((fX6_moveOn y σ).bind fun q44 => if q44.1 = 0 then some (-2, q44.2) else some (p + olen (w p), q44.2)) else if w p = 6 then ((fX6_enter y (p + olen (w p)) σ).bind fun q32 => if q32.1 = 0 then some (-2, q32.2) else some (p + olen (w p), q32.2)) else if w p = 7 then fX6_leave (p + olen (w p)) σ else if w p = 8 then ((fX6_setBeat y σ).bind fun q27 => if q27.1 = 0 then some (-2, q27.2) else some (p + olen (w p), q27.2)) else ((fX6_makeCues (tpO d) p (w p) σ).bind fun q15 => if q15.1 = 0 then some (-2, q15.2) else some (p + olen (w p), q15.2))) := by
  have hs := B.s; have hc := B.c
  have ho := olen_rng (w p)
  obtain ⟨y, hy, hy1, hy2⟩ : ∃ y, fX9_numberAt (tpO d) (p + 1) σ = some y ∧ (p + 1 < len → y = w (p + 1)) ∧ (-128 ≤ y ∧ y ≤ 127) := by
    by_cases c1 : p + 1 < len
    · exact ⟨_, cc_num B (by omega) c1, fun _ => rfl, (B.r (p + 1) (by omega) (by omega)).2.2⟩
    · exact ⟨0, cc_num0 B (by omega), fun z => absurd z c1, by omega⟩
  refine ⟨y, hy1, hy2, ?_⟩
  unfold fX6_follow
  rw [cc_num B h0 c, hasPlace_e, bi_T (by omega)]; simp only [bnd_e]
  rw [iF (show ¬ (1 : Int) = 0 by decide), iF (show ¬ w p < 0 by omega), iT (show w p < 9 by omega)]
  rw [rdO_e h8.1 (by omega), ordLen_e h8, ck_e (by omega) (by omega), hc, iT hl, ck_e (by omega) (by omega), hy]; simp only [bnd_e]
  have lv : ∀ v, ((fX6_leave v σ).bind fun q30 => some (q30.1, q30.2)) = fX6_leave v σ := fun v => by cases fX6_leave v σ <;> rfl
  rw [lv]
  generalize w p = o at h8 ⊢
  have : o = 0 ∨ o = 1 ∨ o = 2 ∨ o = 3 ∨ o = 4 ∨ o = 5 ∨ o = 6 ∨ o = 7 ∨ o = 8 := by omega
  rcases this with rfl | rfl | rfl | rfl | rfl | rfl | rfl | rfl | rfl <;> simp
end

section
set_option linter.unusedVariables false
variable {σ τ : Sg} {V : Vw} {N : Int}
theorem agr_up {w : Int → Int} {len p q : Int} : ∀ (st : Stk) (j : Nat), (∀ k : Nat, EE w len p k = EE w len q (k + 1)) → agr w len p j st → agr w len q (j + 1) st
  | [], _, _, _ => trivial
  | (s, t) :: r, j, h, ⟨h1, h2⟩ => ⟨by rw [← h j]; exact h1, agr_up r (j + 1) h h2⟩
theorem Fr.byt {σ0 τ0 : Sg} {d len : Int} {w : Int → Int} (F : Fr σ0 τ0 σ τ) (B : Byt σ0 τ0 d w len) : Byt σ τ d w len := B.congr (fun j hj => F.a j (by omega)) (F.b 29 (by decide) (by decide) (by decide) (by decide)) (F.b 31 (by decide) (by decide) (by decide) (by decide))
theorem Fr.wf {σ0 τ0 σ' τ' : Sg} (F : Fr σ0 τ0 σ τ) (h : Wf σ τ σ' τ') : Fr σ0 τ0 σ' τ' := ⟨fun j hj => by rw [h.a j (by omega), F.a j hj], fun j j0 j1 j2 j3 => by rw [h.b j j0 j1, F.b j j0 j1 j2 j3], fun p p1 p2 => by rw [h.c p p1, F.c p p1 p2]⟩
theorem p326 {rec : Int → Int → Int → Int → Sg → Option ((Int × Sg) ⊕ ((Int × Int × Sg) ⊕ ((Int × Sg) ⊕ ((Int × Sg) ⊕ ((Int × Sg) ⊕ ((Int × Sg) ⊕ ((Int × Sg) ⊕ (Sg))))))))} {a b c k m : Int} (h : -1 ≤ k ∧ k ≤ 200) (hm : 0 ≤ m ∧ m ≤ 10) : fX12_writes_L18P326 rec a b c k m τ = rec a b c (k + (m + 1)) τ := by
  unfold fX12_writes_L18P326; rw [ck_e (by omega) (by omega), ck_e (by omega) (by omega)]
set_option maxHeartbeats 4000000 in
theorem wr_run {σ0 τ0 : Sg} {d len : Int} {w : Int → Int} (R0 : RelN σ0 V) (hV0 : vw τ0 = V) (B0 : Byt σ0 τ0 d w len) : ∀ (n : Nat) (p x : Int) (st : Stk) (tc tr : Int) (σ τ : Sg), Ws σ0 τ0 σ τ V w len p st tc tr → 0 ≤ x → x ≤ TT w len p st → 73700 - TT w len p st < (n : Int) → 0 < n →
    ∃ v σ' τ', wC n (tpO d) p x σ = some (v, σ') ∧ wR n d tr st.length p τ = some (v, τ') ∧ Fr σ0 τ0 σ' τ' ∧ ((0 ≤ v ∧ v ≤ 100) ∨ (v = -1 ∧ Dr σ' τ' V)) := by
  have hl := B0.s
  intro n
  induction n with
  | zero => intro p x st tc tr σ τ _ _ _ _ h; omega
  | succ n ih =>
    intro p x st tc tr σ τ W x0 x1 hn _
    have B := W.f.byt B0
    have hs := B.s; have hd := B.hd
    have up := TT_up hl.2.2 st p W.dp.2 W.hp.1 (by have := W.hp.2; omega) W.ag W.gd
    have Wn0 := W.wn hl.2.2 R0 hV0
    have hp := W.hp
    have ho := olen_rng (w p)
    have hx : 0 ≤ x ∧ x < 1000000 := by omega
    have dp := W.dp
    have hbt := W.bt
    have hnow := W.n
    have htr := mn_rel W.t W.n.2
    
    have flt : ∀ σ1 τ1 : Sg, fX6_follow (tpO d) p σ = some (-2, σ1) → wR (n + 1) d tr st.length p τ = some (p, τ1) → Fr σ0 τ0 σ1 τ1 → ∃ v σ' τ', wC (n + 1) (tpO d) p x σ = some (v, σ') ∧ wR (n + 1) d tr st.length p τ = some (v, τ') ∧ Fr σ0 τ0 σ' τ' ∧ ((0 ≤ v ∧ v ≤ 100) ∨ (v = -1 ∧ Dr σ' τ' V)) := by
      intro σ1 τ1 h1 h2 h3
      refine ⟨p, σ1, τ1, ?_, h2, h3, .inl (by omega)⟩
      rw [wC_step hx h1, iF (by decide), iT rfl]
    
    have nxt : ∀ (p' tc' tr' : Int) (st' : Stk) (σ1 τ1 : Sg), fX6_follow (tpO d) p σ = some (p', σ1) → wR (n + 1) d tr st.length p τ = wR n d tr' st'.length p' τ1 → Ws σ0 τ0 σ1 τ1 V w len p' st' tc' tr' → TT w len p st + 1 ≤ TT w len p' st' → ∃ v σ' τ', wC (n + 1) (tpO d) p x σ = some (v, σ') ∧ wR (n + 1) d tr st.length p τ = some (v, τ') ∧ Fr σ0 τ0 σ' τ' ∧ ((0 ≤ v ∧ v ≤ 100) ∨ (v = -1 ∧ Dr σ' τ' V)) := by
      intro p' tc' tr' st' σ1 τ1 h1 h2 W' hT
      have hp' := W'.hp
      have up' := TT_up hl.2.2 st' p' W'.dp.2 W'.hp.1 (by omega) W'.ag W'.gd
      rw [wC_step hx h1, iF (by omega), iF (by omega), h2]
      exact ih p' (x + 1) st' tc' tr' σ1 τ1 W' (by omega) (by omega) (by omega) (by omega)
    by_cases hin : p < len ∧ (0 ≤ w p ∧ w p ≤ 8) ∧ p + olen (w p) ≤ len
    · obtain ⟨c, h8, hfit⟩ := hin
      obtain ⟨y, hy, hyr, hf⟩ := fol_yes B hp.1 c h8 hfit
      have hR : wR (n + 1) d tr st.length p τ = (fX12_writes_L18P91 (fX12_writes_L18 n) d tr st.length p (w p) (olen (w p) - 1) (if olen (w p) = 1 then 0 else w (p + 1)) τ).bind (Sum.elim (fun a179 => some (a179.1, a179.2)) (Sum.elim (fun a182 => if a182.1 = 0 then some ((-1), a182.2.2) else some (a182.2.1, a182.2.2)) (Sum.elim (fun a187 => some (a187.1, a187.2)) (Sum.elim (fun a190 => some (a190.1, a190.2)) (Sum.elim (fun a193 => some (a193.1, a193.2)) (Sum.elim (fun a196 => some (a196.1, a196.2)) (Sum.elim (fun a199 => some (a199.1, a199.2)) (fun a202 => rd a202 29 6 d fun v204 => some (v204, a202))))))))) := by
        unfold wR; rw [wR_step B ⟨hp.1, c⟩, if_pos ⟨h8, hfit⟩]
      have Es := EE_step w hl.2.2 (p := p) ⟨hp.1, c⟩ h8
      
      have flat : ∀ (tc' tr' : Int) (σ1 τ1 : Sg), (w p ≠ 6 ∧ w p ≠ 7) → fX6_follow (tpO d) p σ = some (p + olen (w p), σ1) → wR (n + 1) d tr st.length p τ = wR n d tr' st.length (p + olen (w p)) τ1 → Fr σ0 τ0 σ1 τ1 → Dr σ1 τ1 V → (σ1 24 5 = tc' ∧ 0 ≤ tc') → tr' = mnI tc' 1000000 → (σ1 24 6 = τ1 0 40 ∧ 1 ≤ τ1 0 40 ∧ τ1 0 40 ≤ 50) → σ1 24 4 = σ 24 4 → (σ1 30 = σ 30 ∧ σ1 31 = σ 31 ∧ τ1 32 = τ 32 ∧ τ1 33 = τ 33) → tc' ≤ tc + 2500 → ∃ v σ' τ', wC (n + 1) (tpO d) p x σ = some (v, σ') ∧ wR (n + 1) d tr st.length p τ = some (v, τ') ∧ Fr σ0 τ0 σ' τ' ∧ ((0 ≤ v ∧ v ≤ 100) ∨ (v = -1 ∧ Dr σ' τ' V)) := by
        intro tc' tr' σ1 τ1 h67 h1 h2 hF hD hN hT hB h4 hst htc
        have hadd := TT_add w len p (olen (w p)) st
        have hwg := wgt_pos st.length
        have hmul : wgt st.length * 1 ≤ wgt st.length * olen (w p) := Int.mul_le_mul_of_nonneg_left ho.1 (by omega)
        have htT := W.tT
        have Ek : ∀ k : Nat, EE w len p (k + 0) = EE w len (p + olen (w p)) k := fun k => by rw [Nat.add_zero, Es k, if_neg h67.2, if_neg h67.1]
        refine nxt (p + olen (w p)) tc' tr' st σ1 τ1 h1 h2 ⟨hF, hD, hN, hT, hB, by omega, by rw [h4]; exact dp, ?_, ?_, W.gd, by omega⟩ (by omega)
        · exact stR_congr st (fun k hk => by rw [hst.1, hst.2.1, hst.2.2.1, hst.2.2.2]; exact ⟨rfl, rfl, rfl, rfl⟩) W.sk
        · exact agr_move 0 st 0 Ek W.ag
      by_cases o0 : w p = 0
      · 
        rw [o0] at hR hf
        rw [iT rfl] at hf
        unfold fX12_writes_L18P91 at hR
        rw [iT rfl] at hR
        simp only [bnd_e, Sum.elim_inl, Sum.elim_inr] at hR
        by_cases e0 : (st.length : Int) = 0
        · rw [iT (by omega)] at hf
          rw [iT e0] at hR
          refine ⟨-1, σ, τ, ?_, hR, W.f, .inr ⟨rfl, W.d⟩⟩
          rw [wC_step hx hf, iT rfl]
        · rw [iF (by omega)] at hf
          rw [iF e0] at hR
          exact flt σ τ hf hR W.f
      · rw [iF o0] at hf
        by_cases o2 : w p = 2
        · 
          have e1 : olen (w p) = 2 := by rw [o2]; rfl
          have hyw : y = w (p + 1) := hy (by omega)
          rw [iT o2] at hf
          rw [o2, show olen 2 = 2 from rfl] at hR
          unfold fX12_writes_L18P91 at hR
          rw [iF (by decide), iF (by decide), iT rfl, iF (show ¬ (2 : Int) = 1 by decide), ← hyw, isIn_b] at hR
          simp only [bnd_e] at hR
          unfold fX6_moveOn at hf
          by_cases hr : 1 ≤ y ∧ y ≤ 50
          · have hmb : 0 ≤ y * τ 0 40 ∧ y * τ 0 40 ≤ 2500 := by
              refine ⟨Int.mul_nonneg (by omega) (by omega), ?_⟩
              calc y * τ 0 40 ≤ 50 * τ 0 40 := Int.mul_le_mul_of_nonneg_right hr.2 (by omega)
                _ ≤ 2500 := by omega
            have htT := W.tT
            rw [bi_T hr, iF (by decide), ck_e (by omega) (by omega), ck_e (by omega) (by omega)] at hR
            rw [iF (show ¬ y < 1 by omega), iT hr.2, hbt.1, ck_e (by omega) (by omega), hnow.1, ck_e (by omega) (by omega), st1_e] at hf
            simp only [bnd_e] at hf
            rw [iF (by decide)] at hf
            have hm2 : mnI (tc + y * τ 0 40) 1000000 = if tr + y * τ 0 40 ≤ 1000000 then tr + y * τ 0 40 else 1000000 := by
              have h1 := mnI_e tc 1000000
              rw [← W.t] at h1
              unfold mnI
              split <;> split <;> omega
            have hR2 : wR (n + 1) d tr st.length p τ = wR n d (mnI (tc + y * τ 0 40) 1000000) st.length (p + olen (w p)) τ := by
              rw [hR, hm2, e1]
              unfold fX12_writes_L18P191
              by_cases cc : tr + y * τ 0 40 ≤ 1000000
              · rw [iT cc, iT cc, p326 (by omega) (by omega)]; rfl
              · rw [iF cc, iF cc, p326 (by omega) (by omega)]; rfl
            exact flat (tc + y * τ 0 40) _ _ τ (by omega) hf hR2 ⟨fun j hj => by rw [put_ne (by omega), W.f.a j hj], W.f.b, W.f.c⟩ ⟨by rw [put_ne (by decide)]; exact W.d.n, by rw [put_ne (by decide), put_ne (by decide), put_ne (by decide), put_ne (by decide)]; exact W.d.c⟩ ⟨put_T rfl, by omega⟩ rfl (by rw [put_F (by decide)]; exact hbt) (by rw [put_F (by decide)]) ⟨by rw [put_ne (by decide)], by rw [put_ne (by decide)], rfl, rfl⟩ (by omega)
          · rw [bi_F hr, iT rfl] at hR
            refine flt σ τ ?_ hR W.f
            rw [hf]
            by_cases y1 : y < 1
            · rw [iT y1]; rfl
            · rw [iF y1, iF (show ¬ y ≤ 50 by omega)]; rfl
        · rw [iF o2] at hf
          by_cases o6 : w p = 6
          · 
            have e1 : olen (w p) = 2 := by rw [o6]; rfl
            have hyw : y = w (p + 1) := hy (by omega)
            rw [iT o6] at hf
            rw [o6, show olen 6 = 2 from rfl] at hR
            rw [e1] at hf
            unfold fX12_writes_L18P91 at hR
            rw [iF (by decide), iF (by decide), iF (by decide), iF (by decide), iF (by decide), iF (by decide), iT rfl, iF (show ¬ (2 : Int) = 1 by decide), ← hyw, isIn_b] at hR
            simp only [bnd_e] at hR
            unfold fX6_enter at hf
            by_cases hr : 2 ≤ y ∧ y ≤ 9
            · rw [bi_T hr, iF (by decide)] at hR
              rw [iF (show ¬ y < 2 by omega), iT hr.2, iF (show ¬ σ 24 4 < 0 by omega)] at hf
              by_cases d3 : (st.length : Int) = 3
              · rw [iT d3] at hR
                rw [iF (show ¬ σ 24 4 < 3 by omega)] at hf
                exact flt σ τ hf hR W.f
              · rw [iF d3, ck_e (by omega) (by omega), wr_e (by omega) (by omega), wr_e (by omega) (by omega), ck_e (by omega) (by omega), p326 (by omega) (by omega)] at hR
                rw [iT (show σ 24 4 < 3 by omega), dp.1, wr_e (by omega) (by omega), ck_e (by omega) (by omega), put_ne (by decide), dp.1, wr_e (by omega) (by omega), put_ne (by decide), put_ne (by decide), dp.1, ck_e (by omega) (by omega), st1_e] at hf
                simp only [bnd_e] at hf
                rw [iF (by decide)] at hf
                have Ek : ∀ k : Nat, EE w len p k = EE w len (p + 2) (k + 1) := fun k => by rw [Es k, if_neg (by omega), if_pos o6]
                have hag : agr w len (p + 2) 1 st := agr_up st 0 Ek W.ag
                have hadd := TT_add w len p 2 st
                have hwg := wgt_pos st.length
                have hwg1 := wgt_pos (st.length + 1)
                have er := EE_rng w hl.2.2 101 (p + 2) 0 (by omega) (by omega) (by omega)
                have hTT : TT w len p st + 2 ≤ TT w len (p + 2) ((p + 2, y - 1) :: st) := by
                  show _ ≤ TT w len (p + 2) st + wgt (st.length + 1) * ((8 - (y - 1)) * (EE w len (p + 2) 0 - (p + 2)) + (p + 2 - (p + 2)))
                  have h1 : 0 ≤ (8 - (y - 1)) * (EE w len (p + 2) 0 - (p + 2)) := Int.mul_nonneg (by omega) (by omega)
                  have h2 : 0 ≤ wgt (st.length + 1) * ((8 - (y - 1)) * (EE w len (p + 2) 0 - (p + 2)) + (p + 2 - (p + 2))) := Int.mul_nonneg (by omega) (by omega)
                  have h3 : wgt st.length * 2 ≥ 2 := by omega
                  omega
                have htT := W.tT
                refine nxt (p + 2) tc tr ((p + 2, y - 1) :: st) _ _ hf (by rw [hR, show p + (2 - 1 + 1) = p + 2 by omega]; simp only [List.length_cons]; rfl) ⟨⟨?_, ?_, ?_⟩, ⟨?_, ?_⟩, ?_, W.t, ?_, by omega, ?_, ?_, ?_, ?_, by omega⟩ (by omega)
                · intro j hj; rw [put_ne (by omega), put_ne (by omega), put_ne (by omega), W.f.a j hj]
                · intro j j0 j1 j2 j3; rw [put_ne j3, put_ne j2, W.f.b j j0 j1 j2 j3]
                · intro q q1 q2; rw [put_ne (by decide), put_ne (by decide), W.f.c q q1 q2]
                · simp (disch := decide) only [put_ne]; exact W.d.n
                · simp (disch := decide) only [put_ne]; exact W.d.c
                · rw [put_F (by decide)]; simp (disch := decide) only [put_ne]; exact hnow
                · rw [put_F (by decide)]; simp (disch := decide) only [put_ne]; exact hbt
                · rw [put_T rfl]; simp only [List.length_cons]; omega
                · refine ⟨⟨?_, ?_, ?_, ?_⟩, ?_⟩
                  · rw [put_ne (by decide), put_ne (by decide), put_T rfl]
                  · rw [put_ne (by decide), put_T rfl]
                  · rw [put_ne (by decide), put_T rfl]
                  · rw [put_T rfl]; omega
                  · refine stR_congr st (fun k hk => ?_) W.sk
                    simp (disch := decide) only [put_ne]
                    rw [put_F (by omega), put_F (by omega), put_F (by omega), put_F (by omega)]
                    exact ⟨rfl, rfl, rfl, rfl⟩
                · exact ⟨rfl, hag⟩
                · exact ⟨by omega, by omega, hag, W.gd⟩
            · rw [bi_F hr, iT rfl] at hR
              refine flt σ τ ?_ hR W.f
              rw [hf]
              by_cases y1 : y < 2
              · rw [iT y1]; rfl
              · rw [iF y1, iF (show ¬ y ≤ 9 by omega)]; rfl
          · rw [iF o6] at hf
            by_cases o7 : w p = 7
            · 
              have e1 : olen (w p) = 1 := by rw [o7]; rfl
              rw [iT o7] at hf
              rw [o7, show olen 7 = 1 from rfl] at hR
              rw [e1] at hf
              unfold fX12_writes_L18P91 at hR
              rw [iF (by decide), iF (by decide), iF (by decide), iF (by decide), iF (by decide), iF (by decide), iF (by decide), iT rfl] at hR
              unfold fX6_leave at hf
              match st, W, dp, up, hR, x1, hn, flt, nxt with
              | [], W, dp, up, hR, x1, hn, flt, nxt =>
                simp only [List.length_nil] at dp hR
                rw [ck_e (by omega) (by omega), iT (by omega)] at hf
                rw [iT (by rfl)] at hR
                exact flt σ τ hf hR W.f
              | (s, t) :: r, W, dp, up, hR, x1, hn, flt, nxt =>
                simp only [List.length_cons] at dp hR
                obtain ⟨⟨k1, k2, k3, k4⟩, k5⟩ := W.sk
                obtain ⟨a1, a2⟩ := W.ag
                obtain ⟨g1, g2, g3, g4⟩ := W.gd
                have er := EE_rng w hl.2.2 101 s 0 g2.1 g2.2 (by omega)
                have E0 : EE w len p 0 = p + 1 := by rw [Es 0, if_pos o7]
                have he : EE w len s 0 = p + 1 := by rw [← a1, E0]
                have hwg1 := wgt_pos (r.length + 1)
                have e4 : σ 24 4 - 1 = r.length := by omega
                have e5 : ((r.length + 1 : Nat) : Int) - 1 = r.length := by omega
                rw [e4, ck_e (by omega) (by omega), iF (by omega), iT (by omega), rd_e (by omega) (by omega), k3] at hf
                rw [iF (by omega), e5, ck_e (by omega) (by omega), rd_e (by omega) (by omega), k4, ck_e (by omega) (by omega), wr_e (by omega) (by omega), ck_e (by omega) (by omega), rd_e (by omega) (by omega), put_T rfl, show t + 1 - 1 = t by omega] at hR
                have hTTp : TT w len p ((s, t) :: r) = TT w len s r + wgt (r.length + 1) * ((8 - t) * (EE w len s 0 - s) + (p - s)) := rfl
                have htT := W.tT
                have frm : Fr σ0 τ0 (put σ 31 r.length (t - 1)) (put τ 33 r.length t) := ⟨fun j hj => by rw [put_ne (by omega), W.f.a j hj], fun j j0 j1 j2 j3 => by rw [put_ne j3, W.f.b j j0 j1 j2 j3], fun q q1 q2 => by rw [put_ne (by decide), W.f.c q q1 q2]⟩
                have frm2 : Fr σ0 τ0 (put σ 24 4 r.length) (put τ 33 r.length t) := ⟨fun j hj => by rw [put_ne (by omega), W.f.a j hj], fun j j0 j1 j2 j3 => by rw [put_ne j3, W.f.b j j0 j1 j2 j3], fun q q1 q2 => by rw [put_ne (by decide), W.f.c q q1 q2]⟩
                by_cases ct : t ≤ 0
                · 
                  have t0 : t = 0 := by omega
                  rw [iT ct, st1_e] at hf
                  rw [iT ct, show ((r.length + 1 : Nat) : Int) + (-1) = r.length by omega, ck_e (by omega) (by omega), p326 (by omega) (by omega), show p + (1 - 1 + 1) = p + 1 by omega] at hR
                  have hadd := TT_add w len s (EE w len s 0 - s) r
                  rw [show s + (EE w len s 0 - s) = p + 1 by omega, wgt_9 (by omega)] at hadd
                  have hT2 : TT w len p ((s, t) :: r) + 1 ≤ TT w len (p + 1) r := by
                    rw [hTTp, hadd, t0, he]
                    have e1 : (8 - 0) * (p + 1 - s) + (p - s) = 9 * (p + 1 - s) - 1 := by omega
                    rw [e1, Int.mul_sub, show 9 * wgt (r.length + 1) * (p + 1 - s) = wgt (r.length + 1) * (9 * (p + 1 - s)) by rw [← Int.mul_assoc, Int.mul_comm (wgt _) 9]]
                    omega
                  refine nxt (p + 1) tc tr r _ _ hf hR ⟨frm2, ⟨by simp (disch := decide) only [put_ne]; exact W.d.n, by simp (disch := decide) only [put_ne]; exact W.d.c⟩, by rw [put_F (by decide)]; exact hnow, W.t, by rw [put_F (by decide), put_ne (by decide)]; exact hbt, by omega, ⟨put_T rfl, by omega⟩, ?_, ?_, g4, by omega⟩ hT2
                  · exact stR_congr r (fun k hk => ⟨by rw [put_ne (by decide)], by rw [put_ne (by decide)], by rw [put_ne (by decide)], by rw [put_F (by omega)]⟩) k5
                  · exact agr_move 1 r 0 (fun k => by rw [Es (k + 1), if_pos o7]) a2
                · 
                  rw [iF ct, rd_e (by omega) (by omega), k3, ck_e (by omega) (by omega), wr_e (by omega) (by omega), rd_e (by omega) (by omega), put_ne (by decide), k1] at hf
                  rw [iF ct, ck_e (by omega) (by omega), rd_e (by omega) (by omega), put_ne (by decide), k2, ck_e (by omega) (by omega), p326 (by omega) (by omega), show s - 1 + (1 - 1 + 1) = s by omega] at hR
                  have hT2 : TT w len p ((s, t) :: r) + 1 ≤ TT w len s ((s, t - 1) :: r) := by
                    rw [hTTp]
                    show _ ≤ TT w len s r + wgt (r.length + 1) * ((8 - (t - 1)) * (EE w len s 0 - s) + (s - s))
                    rw [show (8 - (t - 1)) = (8 - t) + 1 by omega, Int.add_mul, Int.one_mul]
                    have : (8 - t) * (EE w len s 0 - s) + (EE w len s 0 - s) + (s - s) = ((8 - t) * (EE w len s 0 - s) + (p - s)) + 1 := by omega
                    have e := Int.mul_add (wgt (r.length + 1)) ((8 - t) * (EE w len s 0 - s) + (p - s)) 1
                    rw [Int.mul_one] at e
                    rw [this, e]; omega
                  refine nxt s tc tr ((s, t - 1) :: r) _ _ hf hR ⟨frm, ⟨by simp (disch := decide) only [put_ne]; exact W.d.n, by simp (disch := decide) only [put_ne]; exact W.d.c⟩, by rw [put_ne (by decide)]; exact hnow, W.t, by rw [put_ne (by decide), put_ne (by decide)]; exact hbt, by omega, ⟨by rw [put_ne (by decide)]; exact W.dp.1, by simp only [List.length_cons]; omega⟩, ?_, ?_, ?_, by omega⟩ hT2
                  · refine ⟨⟨?_, ?_, ?_, ?_⟩, ?_⟩
                    · rw [put_ne (by decide)]; exact k1
                    · rw [put_ne (by decide)]; exact k2
                    · rw [put_T rfl]
                    · rw [put_T rfl]; omega
                    · exact stR_congr r (fun k hk => ⟨by rw [put_ne (by decide)], by rw [put_ne (by decide)], by rw [put_F (by omega)], by rw [put_F (by omega)]⟩) k5
                  · exact ⟨rfl, g3⟩
                  · exact ⟨by omega, g2, g3, g4⟩
            · rw [iF o7] at hf
              by_cases o8 : w p = 8
              · 
                have e1 : olen (w p) = 2 := by rw [o8]; rfl
                have hyw : y = w (p + 1) := hy (by omega)
                rw [iT o8] at hf
                rw [o8, show olen 8 = 2 from rfl] at hR
                unfold fX12_writes_L18P91 at hR
                rw [iF (by decide), iF (by decide), iF (by decide), iF (by decide), iF (by decide), iF (by decide), iF (by decide), iF (by decide), iT rfl, iF (show ¬ (2 : Int) = 1 by decide), ← hyw, isIn_b] at hR
                simp only [bnd_e] at hR
                unfold fX6_setBeat at hf
                by_cases hr : 1 ≤ y ∧ y ≤ 50
                · rw [bi_T hr, iF (by decide), st1_e, p326 (by omega) (by omega)] at hR
                  rw [iF (show ¬ y < 1 by omega), iT hr.2, st1_e] at hf
                  simp only [bnd_e] at hf
                  rw [iF (by decide)] at hf
                  exact flat tc tr _ (put τ 0 40 y) (by omega) hf (by rw [hR, e1]; rfl) ⟨fun j hj => by rw [put_ne (by omega), W.f.a j hj], fun j j0 j1 j2 j3 => by rw [put_ne j0, W.f.b j j0 j1 j2 j3], fun q q1 q2 => by rw [put_F q2, W.f.c q q1 q2]⟩ ⟨by rw [put_ne (by decide), put_F (by decide)]; exact W.d.n, by rw [put_F (by decide)]; simp (disch := decide) only [put_ne]; exact W.d.c⟩ (by rw [put_F (by decide)]; exact hnow) W.t (by rw [put_T rfl, put_T rfl]; omega) (by rw [put_F (by decide)]) ⟨by rw [put_ne (by decide)], by rw [put_ne (by decide)], by rw [put_ne (by decide)], by rw [put_ne (by decide)]⟩ (by omega)
                · rw [bi_F hr, iT rfl] at hR
                  refine flt σ τ ?_ hR W.f
                  rw [hf]
                  by_cases y1 : y < 1
                  · rw [iT y1]; rfl
                  · rw [iF y1, iF (show ¬ y ≤ 50 by omega)]; rfl
              · 
                rw [iF o8] at hf
                obtain ⟨b, σ1, τ1, a1, a2, a3, a4, a5⟩ := cb_joint B Wn0 hp.1 rfl (by omega) (by
                  have : olen (w p) = if w p < 4 then 4 else 5 := by
                    have : w p = 1 ∨ w p = 3 ∨ w p = 4 ∨ w p = 5 := by omega
                    rcases this with z | z | z | z <;> rw [z] <;> rfl
                  omega)
                rw [a1] at hf
                simp only [bnd_e] at hf
                have hR2 : wR (n + 1) d tr st.length p τ = if b = 0 then some (p, τ1) else wR n d tr st.length (p + olen (w p)) τ1 := by
                  rw [hR]
                  unfold fX12_writes_L18P91
                  rw [iF o0, a2]
                  simp only [bnd_e]
                  have p3 : fX12_writes_L18P326 (fX12_writes_L18 n) d tr st.length p (olen (w p) - 1) τ1 = fX12_writes_L18 n d tr st.length (p + olen (w p)) τ1 := by
                    rw [p326 (by omega) (by omega), show olen (w p) - 1 + 1 = olen (w p) by omega]
                  rw [p3, if_neg o2, if_neg o6, if_neg o7, if_neg o8]
                  have dist : ∀ X : Option ((Int × Sg) ⊕ ((Int × Int × Sg) ⊕ ((Int × Sg) ⊕ ((Int × Sg) ⊕ ((Int × Sg) ⊕ ((Int × Sg) ⊕ ((Int × Sg) ⊕ (Sg)))))))), (if w p = 1 then X else if w p = 3 then X else if w p = 4 then X else if w p = 5 then X else X) = X := fun X => by
                    split
                    · rfl
                    split
                    · rfl
                    split
                    · rfl
                    split <;> rfl
                  rw [dist]
                  rcases a3 with rfl | rfl
                  · rfl
                  · rfl
                rcases a3 with rfl | rfl
                · rw [iT rfl] at hf hR2
                  exact flt σ1 τ1 hf hR2 (W.f.wf a4)
                · rw [iF (by decide)] at hf hR2
                  exact flat tc tr σ1 τ1 ⟨o6, o7⟩ hf hR2 (W.f.wf a4) a5 (by rw [a4.a 24 (by omega)]; exact hnow) W.t (by rw [a4.a 24 (by omega), a4.c 40 (by decide)]; exact hbt) (by rw [a4.a 24 (by omega)]) ⟨by rw [a4.a 30 (by omega)], by rw [a4.a 31 (by omega)], by rw [a4.b 32 (by decide) (by omega)], by rw [a4.b 33 (by decide) (by omega)]⟩ (by omega)
    · refine flt σ τ (fol_no B hp.1 hin hp.2) ?_ W.f
      by_cases c : p < len
      · unfold wR; rw [wR_step B ⟨hp.1, c⟩, if_neg (fun z => hin ⟨c, z.1, z.2⟩)]; rfl
      · unfold wR fX12_writes_L18
        rw [rd_e hd.1 (by omega), hs.1, iF c]; simp only [bnd_e, Sum.elim_inr]
        rw [rd_e hd.1 (by omega), hs.1, show len = p by omega]
end

section
set_option linter.unusedVariables false
variable {σ τ : Sg} {V : Vw} {N : Int}
theorem rr_writeL {m : Int} (hm : 0 ≤ m ∧ m ≤ 120) : ∀ (n : Nat) (x : Int) (τ : Sg), τ 0 32 = m → 0 ≤ x → m - x < (n : Int) → 0 < n → ∃ τ', fX12_write_L52 n x τ = some τ' ∧ (∀ j, ¬ (13 ≤ j ∧ j ≤ 16) → τ' j = τ j) ∧
    (∀ c, x ≤ c → c < m → τ' 13 c = τ 18 c ∧ τ' 14 c = τ 19 c ∧ τ' 15 c = τ 20 c ∧ τ' 16 c = τ 21 c) ∧ (∀ c, c < x → τ' 13 c = τ 13 c ∧ τ' 14 c = τ 14 c ∧ τ' 15 c = τ 15 c ∧ τ' 16 c = τ 16 c) := by
  intro n
  induction n with
  | zero => intro x τ _ _ h; omega
  | succ n ih =>
    intro x τ hV h0 h1 _
    unfold fX12_write_L52
    by_cases c : x < m
    · obtain ⟨τ', a1, a2, a3, a4⟩ := ih (x + 1) (put (put (put (put τ 13 x (τ 18 x)) 14 x (τ 19 x)) 15 x (τ 20 x)) 16 x (τ 21 x)) (by rw [put_ne (by decide), put_ne (by decide), put_ne (by decide), put_ne (by decide)]; exact hV) (by omega) (by omega) (by omega)
      refine ⟨τ', ?_, fun j hj => by rw [a2 j hj, put_ne (by omega), put_ne (by omega), put_ne (by omega), put_ne (by omega)], ?_, ?_⟩
      · rw [iT (by omega), rd_e (by omega) (by omega), wr_e (by omega) (by omega), rd_e (by omega) (by omega), put_ne (by decide), wr_e (by omega) (by omega), rd_e (by omega) (by omega)]
        simp (disch := decide) only [put_ne]
        rw [wr_e (by omega) (by omega), rd_e (by omega) (by omega)]
        simp (disch := decide) only [put_ne]
        rw [wr_e (by omega) (by omega), ck_e (by omega) (by omega)]
        exact a1
      · intro c c0 c1
        by_cases e : c = x
        · subst e
          obtain ⟨x1, x2, x3, x4⟩ := a4 _ (show _ < _ from Int.lt_succ _)
          rw [x1, x2, x3, x4]
          refine ⟨?_, ?_, ?_, ?_⟩
          · rw [put_ne (by decide), put_ne (by decide), put_ne (by decide), put_T rfl]
          · rw [put_ne (by decide), put_ne (by decide), put_T rfl]
          · rw [put_ne (by decide), put_T rfl]
          · rw [put_T rfl]
        · have := a3 c (by omega) c1
          simp (disch := decide) only [put_ne] at this
          exact this
      · intro k hk
        obtain ⟨x1, x2, x3, x4⟩ := a4 k (by omega)
        rw [x1, x2, x3, x4]
        have : k ≠ x := by omega
        simp (disch := decide) only [put_ne]
        rw [put_F this, put_F this, put_F this, put_F this]; exact ⟨rfl, rfl, rfl, rfl⟩
    · exact ⟨τ, by rw [iF (by omega)], fun _ _ => rfl, fun k k0 k1 => by omega, fun _ _ => ⟨rfl, rfl, rfl, rfl⟩⟩
theorem m_write (d : Int) : Mt (fX11_write d) (fX12_write d) := by
  intro N σ τ R0 hN
  have R := Rel_54 R0
  unfold fX12_write
  rw [st1_e]
  generalize hτ : put τ 0 54 0 = τ1 at R ⊢
  have t54 : τ1 0 54 = 0 := by rw [← hτ, put_T rfl]
  have v := R.v
  unfold fX11_write fX9_refusalAs fX12_wrongBytes
  rw [isTape_b]; simp only [bnd_e]
  by_cases hd : 0 ≤ d ∧ d < 6
  · rw [iT hd, bi_T (show 0 ≤ d ∧ d ≤ 5 by omega)]; (try simp only [bnd_e, one0, two0, if_false, ↓reduceIte])
    have T := R.tape d hd.1 hd.2
    have so := T.so
    rw [so.1, rd_e hd.1 (by omega)]
    by_cases c0 : τ1 28 d = 0
    · obtain ⟨r1, r2, r3⟩ := refuse_e R hN (-11)
      rw [iT c0, iT c0, r2]; simp only [bnd_e]
      rw [iF (by decide), iF (by decide), r1]
      exact ⟨_, _, _, rfl, rfl, r3⟩
    · rw [iF c0, iF c0, rd_e hd.1 (by omega)]
      by_cases c1 : τ1 28 d = 1
      · rw [iT c1, iT c1]; simp only [bnd_e, if_true]
        have B := Byt_of R hd c1
        have le := T.le (by omega) (by omega)
        obtain ⟨len, hlen⟩ : ∃ l, l = τ1 29 d := ⟨_, rfl⟩
        obtain ⟨w, hw⟩ : ∃ w, w = fun i => τ1 31 (100 * d + i) := ⟨_, rfl⟩
        rw [← hlen, ← hw] at B
        rw [← hlen] at le
        have W0 : Ws σ τ1 (put (put (put (put σ 25 4 0) 24 4 0) 24 5 0) 24 6 10) (put (put τ1 0 39 0) 0 40 10) (vw τ1) w len 0 [] 0 0 := (Ws.mk (f := ⟨fun j hj => by rw [put_ne (by omega), put_ne (by omega), put_ne (by omega), put_ne (by omega)], fun j j0 _ _ _ => by rw [put_ne j0, put_ne j0], fun p p1 p2 => by rw [put_F p2, put_F p1]⟩) (d := ⟨by simp (disch := decide) only [put_ne, put_F, put_T]; decide, fun c c0 c1 => by simp (disch := decide) only [put_F, put_T] at c1; omega⟩) (n := by rw [put_F (by decide), put_T rfl]; omega) (t := by unfold mnI; rfl) (bt := by rw [put_T rfl, put_T rfl]; omega) (hp := by omega) (dp := ⟨by rw [put_F (by decide), put_F (by decide), put_T rfl]; rfl, by decide⟩) (sk := trivial) (ag := trivial) (gd := trivial) (tT := by show (0 : Int) ≤ 2500 * (729 * 0); omega))
        obtain ⟨x, σ2, τ2, b1, b2, b3, b4⟩ := wr_run v.toRelN rfl B fu 0 0 [] 0 0 _ _ W0 (by omega) (by show (0 : Int) ≤ 729 * 0; omega) (by show 73700 - 729 * 0 < ((fu : Nat) : Int); rw [fu_i]; omega) fu_pos
        have ffc : fX6_firstFault (tpO d) σ = some (x, σ2) := by
          unfold fX6_firstFault; rw [st1_e, st1_e, st1_e, st1_e]; exact b1
        have ffr : fX12_writes d τ1 = some (x, τ2) := by
          unfold fX12_writes; rw [st1_e, st1_e]; exact b2
        rw [ffc, ffr]; simp only [bnd_e]
        have R2 : Rel N σ2 τ2 := by
          refine Rel_scr R (fun j j1 j2 j3 => b3.a j (by omega)) (fun j j0 j1 j2 => b3.b j j0 j1 (by omega) (by omega)) (fun p p1 p2 => b3.c p (by omega) (by omega)) (.inl (by rw [b3.c 54 (by decide) (by decide)]; exact t54))
        rcases b4 with b4 | ⟨rfl, D⟩
        · rw [iF (by omega), iF (by omega), ck_e (by omega) (by omega), ck_e (by omega) (by omega)]
          exact ⟨_, _, _, rfl, rfl, R2.up⟩
        · rw [iT (by decide), iT (by decide)]
          have hv2 : vw τ2 = vw τ1 := vw_congr (fun j hj => b3.b j (ne_of_mem hj (by decide)) (by simp only [List.mem_cons, List.not_mem_nil, or_false] at hj; omega) (ne_of_mem hj (by decide)) (ne_of_mem hj (by decide))) (b3.c _ (by decide) (by decide)) (b3.c _ (by decide) (by decide)) (b3.c _ (by decide) (by decide)) (b3.c _ (by decide) (by decide))
          have hn := D.n
          obtain ⟨m, hm⟩ : ∃ m, m = τ2 0 39 := ⟨_, rfl⟩
          obtain ⟨σ', a1, a2, a3, a4, a5⟩ := cc_take (σ := σ2) (x1 := 25) (by omega) (by omega)
          obtain ⟨τ3, d1, d2, d3, d4, d5, d6⟩ := rr_comes (τ := τ2) (m := m)
          obtain ⟨τ4, e1, e2, e3, -⟩ := rr_writeL (m := m) (by omega) fu 0 τ3 d4 (by omega) (by rw [fu_i]; omega) fu_pos
          rw [a1, ← hm, d1]; simp only [bnd_e]; rw [e1]; simp only [bnd_e]
          have s19 : σ' 19 4 = m := by rw [a3]; omega
          have t32 : τ4 0 32 = m := by rw [e2 0 (by omega)]; exact d4
          refine ⟨_, _, _, rfl, by rw [s19, t32], ?_⟩
          refine Rel.up (take_rel R2 (m := m) (by omega) a2 s19 a4 (fun j j0 j1 => by rw [e2 j (by omega), d2 j j0 (by omega)]) (fun p p32 p36 p54 => by rw [e2 0 (by omega), d3 p p32 p36]) t32 (by rw [e2 0 (by omega)]; exact d5) (by rw [e2 0 (by omega), d3 54 (by decide) (by decide), b3.c 54 (by decide) (by decide)]; exact t54) ?_)
          intro c c0 c1
          obtain ⟨x1, x2, x3, x4⟩ := e3 c c0 c1
          obtain ⟨y1, y2, y3, y4, y5⟩ := a5 c c0 (by omega)
          obtain ⟨z1, z2, z3, z4, z5⟩ := D.c c c0 (by omega)
          have f17 : τ4 17 c = 0 := by rw [e2 17 (by omega)]; exact d6 c c0 (by omega)
          have g2 : τ2 2 = (vw τ1).1.2.1 := by rw [b3.b 2 (by decide) (by omega) (by decide) (by decide)]
          rw [d2 18 (by decide) (by decide)] at x1
          rw [d2 19 (by decide) (by decide)] at x2
          rw [d2 20 (by decide) (by decide)] at x3
          rw [d2 21 (by decide) (by decide)] at x4
          rw [x1, x2, x3, x4, y1, y2, y3, y4, y5, f17, hv2, g2]
          exact ⟨⟨z1.1, z1.2.1, z1.2.2.1, z1.2.2.2, rfl⟩, rfl, z2, z3, z4, z5⟩
      · obtain ⟨r1, r2, r3⟩ := refuse_e R hN (-12)
        rw [iF c1, iF c1, r2]; simp only [bnd_e]
        rw [iF (by decide), iF (by decide), r1]
        exact ⟨_, _, _, rfl, rfl, r3⟩
  · rw [iF hd, bi_F (show ¬ (0 ≤ d ∧ d ≤ 5) by omega)]; exact ⟨_, _, _, rfl, rfl, R.up⟩
end

section
set_option linter.unusedVariables false
theorem sum_rm {Q : Int → Prop} {a : Int} : ∀ (n : Nat) (i : Int), i ≤ a → a < i + n → Q a → sumI (fun j => bi (Q j ∧ j ≠ a)) n i + 1 = sumI (fun j => bi (Q j)) n i
  | 0, i, h0, h1, _ => by omega
  | n + 1, i, h0, h1, hq => by
    rw [sumI_s, sumI_s]
    by_cases e : i = a
    · subst e
      rw [bi_F (fun y => y.2 rfl), bi_T hq]
      have : sumI (fun j => bi (Q j ∧ j ≠ i)) n (i + 1) = sumI (fun j => bi (Q j)) n (i + 1) := sumI_cong (fun j j0 j1 => bi_cong ⟨fun y => y.1, fun y => ⟨y, by omega⟩⟩)
      omega
    · have := sum_rm (Q := Q) (a := a) n (i + 1) (by omega) (by omega) hq
      have e2 : bi (Q i ∧ i ≠ a) = bi (Q i) := bi_cong ⟨fun y => y.1, fun y => ⟨y, e⟩⟩
      omega
theorem pig {m : Nat} {f : Int → Int} : ∀ (k : Nat) (P Q : Int → Prop), (∀ j : Int, 0 ≤ j → j < k → P j → (0 ≤ f j ∧ f j < m) ∧ Q (f j)) → (∀ j j' : Int, 0 ≤ j → j < k → 0 ≤ j' → j' < k → P j → P j' → f j = f j' → j = j') → sumI (fun j => bi (P j)) k 0 ≤ sumI (fun j => bi (Q j)) m 0
  | 0, P, Q, _, _ => (sumI_rng (fun j => bi_rng) m 0).1
  | k + 1, P, Q, h1, h2 => by
    rw [sumI_snoc, show (0 : Int) + k = k by omega]
    by_cases c : P k
    · obtain ⟨a1, a2⟩ := h1 k (by omega) (by omega) c
      have ih := pig (m := m) (f := f) k P (fun j => Q j ∧ j ≠ f k) (fun j j0 j1 hp => by
        obtain ⟨b1, b2⟩ := h1 j j0 (by omega) hp
        refine ⟨b1, b2, fun e => ?_⟩
        have := h2 j k j0 (by omega) (by omega) (by omega) hp c e
        omega) (fun j j' a b e g => h2 j j' a (by omega) e (by omega))
      have := sum_rm (Q := Q) (a := f k) m 0 a1.1 (by omega) a2
      rw [bi_T c]; omega
    · have ih := pig (m := m) (f := f) k P Q (fun j j0 j1 => h1 j j0 (by omega)) (fun j j' a b e g => h2 j j' a (by omega) e (by omega))
      rw [bi_F c]; omega
noncomputable def cntM (m : Nat) (T : Int → Int) : Int := sumI (fun j => bi (T j ≠ -1)) m 0
abbrev Val (m : Nat) (el : Int → Prop) (mb : Int → Int → Prop) (T : Int → Int) : Prop := (∀ j : Int, 0 ≤ j → j < m → T j ≠ -1 → el (T j) ∧ mb (T j) j) ∧ (∀ j j' : Int, 0 ≤ j → j < m → 0 ≤ j' → j' < m → T j ≠ -1 → T j = T j' → j = j')
theorem Val.e {m : Nat} {el : Int → Prop} {mb : Int → Int → Prop} {T : Int → Int} (h : Val m el mb T) : ∀ j : Int, 0 ≤ j → j < m → T j ≠ -1 → el (T j) ∧ mb (T j) j := h.1
theorem Val.i {m : Nat} {el : Int → Prop} {mb : Int → Int → Prop} {T : Int → Int} (h : Val m el mb T) : ∀ j j' : Int, 0 ≤ j → j < m → 0 ≤ j' → j' < m → T j ≠ -1 → T j = T j' → j = j' := h.2
theorem Val.mk {m : Nat} {el : Int → Prop} {mb : Int → Int → Prop} {T : Int → Int} (e : ∀ j : Int, 0 ≤ j → j < m → T j ≠ -1 → el (T j) ∧ mb (T j) j) (i : ∀ j j' : Int, 0 ≤ j → j < m → 0 ≤ j' → j' < m → T j ≠ -1 → T j = T j' → j = j') : Val m el mb T := ⟨e, i⟩
abbrev Cer (m : Nat) (el : Int → Prop) (mb : Int → Int → Prop) (T : Int → Int) (M : Int → Prop) : Prop := (∀ j : Int, 0 ≤ j → j < m → M j → T j ≠ -1) ∧ (∀ c, el c → (¬ ∃ j : Int, 0 ≤ j ∧ j < m ∧ T j = c) → ∀ j : Int, 0 ≤ j → j < m → mb c j → M j) ∧ (∀ j : Int, 0 ≤ j → j < m → M j → ∀ j' : Int, 0 ≤ j' → j' < m → mb (T j) j' → M j')
theorem Cer.a {m : Nat} {el : Int → Prop} {mb : Int → Int → Prop} {T : Int → Int} {M : Int → Prop} (h : Cer m el mb T M) : ∀ j : Int, 0 ≤ j → j < m → M j → T j ≠ -1 := h.1
theorem Cer.u {m : Nat} {el : Int → Prop} {mb : Int → Int → Prop} {T : Int → Int} {M : Int → Prop} (h : Cer m el mb T M) : ∀ c, el c → (¬ ∃ j : Int, 0 ≤ j ∧ j < m ∧ T j = c) → ∀ j : Int, 0 ≤ j → j < m → mb c j → M j := h.2.1
theorem Cer.k {m : Nat} {el : Int → Prop} {mb : Int → Int → Prop} {T : Int → Int} {M : Int → Prop} (h : Cer m el mb T M) : ∀ j : Int, 0 ≤ j → j < m → M j → ∀ j' : Int, 0 ≤ j' → j' < m → mb (T j) j' → M j' := h.2.2
theorem Cer.mk {m : Nat} {el : Int → Prop} {mb : Int → Int → Prop} {T : Int → Int} {M : Int → Prop} (a : ∀ j : Int, 0 ≤ j → j < m → M j → T j ≠ -1) (u : ∀ c, el c → (¬ ∃ j : Int, 0 ≤ j ∧ j < m ∧ T j = c) → ∀ j : Int, 0 ≤ j → j < m → mb c j → M j) (k : ∀ j : Int, 0 ≤ j → j < m → M j → ∀ j' : Int, 0 ≤ j' → j' < m → mb (T j) j' → M j') : Cer m el mb T M := ⟨a, u, k⟩
theorem cer_max {m : Nat} {el : Int → Prop} {mb : Int → Int → Prop} {T1 T2 : Int → Int} {M : Int → Prop} (C : Cer m el mb T1 M) (W : Val m el mb T2) : cntM m T2 ≤ cntM m T1 := by
  classical
  have ex : ∀ j : Int, 0 ≤ j → j < m → T2 j ≠ -1 → ∃ f : Int, (0 ≤ f ∧ f < m) ∧ T1 f ≠ -1 ∧ ((M j ∧ f = j) ∨ (¬ M j ∧ ¬ M f ∧ T1 f = T2 j)) := by
    intro j j0 j1 hj
    obtain ⟨e1, e2⟩ := W.e j j0 j1 hj
    by_cases hm : M j
    · exact ⟨j, ⟨j0, j1⟩, C.a j j0 j1 hm, .inl ⟨hm, rfl⟩⟩
    · have : ∃ f : Int, 0 ≤ f ∧ f < m ∧ T1 f = T2 j := Classical.byContradiction (fun h => hm (C.u _ e1 h j j0 j1 e2))
      obtain ⟨f, f0, f1, f2⟩ := this
      exact ⟨f, ⟨f0, f1⟩, by rw [f2]; exact hj, .inr ⟨hm, fun h => hm (C.k f f0 f1 h j j0 j1 (by rw [f2]; exact e2)), f2⟩⟩
  let f : Int → Int := fun j => if h : 0 ≤ j ∧ j < m ∧ T2 j ≠ -1 then (ex j h.1 h.2.1 h.2.2).choose else 0
  have hf : ∀ j : Int, (h0 : 0 ≤ j) → (h1 : j < m) → (h2 : T2 j ≠ -1) → (0 ≤ f j ∧ f j < m) ∧ T1 (f j) ≠ -1 ∧ ((M j ∧ f j = j) ∨ (¬ M j ∧ ¬ M (f j) ∧ T1 (f j) = T2 j)) := by
    intro j h0 h1 h2
    have : f j = (ex j h0 h1 h2).choose := dif_pos ⟨h0, h1, h2⟩
    rw [this]; exact (ex j h0 h1 h2).choose_spec
  refine pig (f := f) m (fun j => T2 j ≠ -1) (fun j => T1 j ≠ -1) (fun j j0 j1 hj => ⟨(hf j j0 j1 hj).1, (hf j j0 j1 hj).2.1⟩) ?_
  intro j j' a0 a1 b0 b1 hj hj' he
  obtain ⟨-, -, c⟩ := hf j a0 a1 hj
  obtain ⟨-, -, c'⟩ := hf j' b0 b1 hj'
  rcases c with ⟨c1, c2⟩ | ⟨c1, c2, c3⟩
  · rcases c' with ⟨d1, d2⟩ | ⟨d1, d2, d3⟩
    · omega
    · rw [← he, c2] at d2; exact absurd c1 d2
  · rcases c' with ⟨d1, d2⟩ | ⟨d1, d2, d3⟩
    · rw [he, d2] at c2; exact absurd d1 c2
    · exact W.i j j' a0 a1 b0 b1 hj (by rw [← c3, ← d3, he])

theorem two_max {m : Nat} {el : Int → Prop} {mb mb' : Int → Int → Prop} {T G : Int → Int} {M M' : Int → Prop} {π ρ : Int → Int}
    (hp : ∀ i : Int, 0 ≤ i → i < m → (0 ≤ π i ∧ π i < m) ∧ ρ (π i) = i) (hr : ∀ i : Int, 0 ≤ i → i < m → (0 ≤ ρ i ∧ ρ i < m) ∧ π (ρ i) = i)
    (hmb : ∀ c, ∀ i : Int, 0 ≤ i → i < m → (mb' c i ↔ mb c (π i))) (V : Val m el mb T) (C : Cer m el mb T M) (V' : Val m el mb' G) (C' : Cer m el mb' G M') : cntM m G = cntM m T := by
  have v1 : Val m el mb' (fun i => T (π i)) := ⟨fun j j0 j1 h => by
      obtain ⟨a, b⟩ := hp j j0 j1
      have := V.e (π j) a.1 a.2 h
      exact ⟨this.1, (hmb _ j j0 j1).2 this.2⟩, fun j j' j0 j1 k0 k1 h e => by
      obtain ⟨a, b⟩ := hp j j0 j1; obtain ⟨a', b'⟩ := hp j' k0 k1
      have := V.i (π j) (π j') a.1 a.2 a'.1 a'.2 h e
      rw [← b, ← b', this]⟩
  have v2 : Val m el mb (fun i => G (ρ i)) := ⟨fun j j0 j1 h => by
      obtain ⟨a, b⟩ := hr j j0 j1
      have := V'.e (ρ j) a.1 a.2 h
      refine ⟨this.1, ?_⟩
      have := (hmb _ (ρ j) a.1 a.2).1 this.2
      rw [b] at this; exact this, fun j j' j0 j1 k0 k1 h e => by
      obtain ⟨a, b⟩ := hr j j0 j1; obtain ⟨a', b'⟩ := hr j' k0 k1
      have := V'.i (ρ j) (ρ j') a.1 a.2 a'.1 a'.2 h e
      rw [← b, ← b', this]⟩
  have c1 := cer_max C' v1
  have c2 := cer_max C v2
  have c3 : cntM m T ≤ cntM m (fun i => T (π i)) := pig (f := ρ) m (fun j => T j ≠ -1) (fun j => T (π j) ≠ -1) (fun j j0 j1 h => by
    obtain ⟨a, b⟩ := hr j j0 j1; exact ⟨a, by rw [b]; exact h⟩) (fun j j' j0 j1 k0 k1 _ _ e => by
    rw [← (hr j j0 j1).2, ← (hr j' k0 k1).2, e])
  have c4 : cntM m G ≤ cntM m (fun i => G (ρ i)) := pig (f := π) m (fun j => G j ≠ -1) (fun j => G (ρ j) ≠ -1) (fun j j0 j1 h => by
    obtain ⟨a, b⟩ := hp j j0 j1; exact ⟨a, by rw [b]; exact h⟩) (fun j j' j0 j1 k0 k1 _ _ e => by
    rw [← (hp j j0 j1).2, ← (hp j' k0 k1).2, e])
  omega

theorem greedy_cer {m : Nat} {el : Int → Prop} {mb : Int → Int → Prop} {G : Int → Int} {tk co st en cl : Int → Int}
    (hmb : ∀ c, ∀ i : Int, 0 ≤ i → i < m → (mb c i ↔ cl c = co i ∧ st c ≤ tk i ∧ tk i ≤ en c))
    (hs : ∀ i j : Int, 0 ≤ i → i < j → j < m → tk i ≤ tk j) (V : Val m el mb G)
    (gp : ∀ i : Int, 0 ≤ i → i < m → ∀ c, el c → mb c i → (∃ q : Int, 0 ≤ q ∧ q < i ∧ G q = c) ∨ (G i ≠ -1 ∧ en (G i) ≤ en c)) :
    Cer m el mb G (fun q => ∃ A b, (A ≤ tk q ∧ tk q ≤ b) ∧ ∀ r : Int, 0 ≤ r → r < m → co r = co q → A ≤ tk r → tk r ≤ b → G r ≠ -1 ∧ en (G r) ≤ b) := by
  refine ⟨?_, ?_, ?_⟩
  · rintro j j0 j1 ⟨A, b, h1, h2⟩
    exact (h2 j j0 j1 rfl h1.1 h1.2).1
  · intro c hc hu j j0 j1 hj
    obtain ⟨h1, h2, h3⟩ := (hmb c j j0 j1).1 hj
    refine ⟨st c, en c, ⟨h2, h3⟩, fun r r0 r1 e a b => ?_⟩
    rcases gp r r0 r1 c hc ((hmb c r r0 r1).2 ⟨by rw [e]; exact h1, a, b⟩) with ⟨q, q0, q1, q2⟩ | h
    · exact absurd ⟨q, q0, by omega, q2⟩ hu
    · exact h
  · rintro j j0 j1 ⟨A, b, h1, h2⟩ j' k0 k1 hm
    obtain ⟨g1, g2⟩ := h2 j j0 j1 rfl h1.1 h1.2
    have hj := (hmb _ j j0 j1).1 (V.e j j0 j1 g1).2
    have hj' := (hmb _ j' k0 k1).1 hm
    have hco : co j' = co j := by rw [← hj.1, ← hj'.1]
    refine ⟨if st (G j) < A then st (G j) else A, b, ⟨by split <;> omega, by omega⟩, fun r r0 r1 e a x => ?_⟩
    by_cases c : A ≤ tk r
    · exact h2 r r0 r1 (by rw [e, hco]) c x
    · have hA : st (G j) ≤ tk r := by split at a <;> omega
      rcases gp r r0 r1 (G j) (V.e j j0 j1 g1).1 ((hmb _ r r0 r1).2 ⟨by rw [e, hco]; exact hj.1, hA, by omega⟩) with ⟨q, q0, q1, q2⟩ | h
      · have := V.i j q j0 j1 q0 (by omega) g1 q2.symm
        have := hs q r q0 q1 r1
        subst_vars; omega
      · exact ⟨h.1, by omega⟩
end

section
set_option linter.unusedVariables false
variable {σ τ : Sg} {V : Vw} {N : Int}
def el (V : Vw) (x c : Int) : Prop := (0 ≤ c ∧ c < V.2.2.2.2.2.1) ∧ isSh (fateV V c) ∧ c ≠ x
def mbV (V : Vw) (t' c' : Int → Int) (c j : Int) : Prop := c' j = V.2.1.1 (hasV V c) ∧ abI (t' j - V.2.2.1.2.2.1 c) ≤ V.2.1.2.1 (hasV V c)

abbrev Kn (τ : Sg) (V : Vw) (m : Nat) (t' c' : Int → Int) : Prop := (vw τ = V) ∧ (∃ σ, RelN σ V) ∧ (∀ c, 0 ≤ c → c < V.2.2.2.2.2.1 → τ 41 c = fateV V c ∧ (isSh (fateV V c) → τ 42 c = hasV V c)) ∧ (τ 0 36 = m ∧ m ≤ 60) ∧ (τ 26 = t' ∧ τ 27 = c' ∧ ∀ j : Int, 0 ≤ j → j < m → (0 ≤ t' j ∧ t' j ≤ 20010))
theorem Kn.v {τ : Sg} {V : Vw} {m : Nat} {t' c' : Int → Int} (h : Kn τ V m t' c') : vw τ = V := h.1
theorem Kn.r {τ : Sg} {V : Vw} {m : Nat} {t' c' : Int → Int} (h : Kn τ V m t' c') : ∃ σ, RelN σ V := h.2.1
theorem Kn.p {τ : Sg} {V : Vw} {m : Nat} {t' c' : Int → Int} (h : Kn τ V m t' c') : ∀ c, 0 ≤ c → c < V.2.2.2.2.2.1 → τ 41 c = fateV V c ∧ (isSh (fateV V c) → τ 42 c = hasV V c) := h.2.2.1
theorem Kn.hm {τ : Sg} {V : Vw} {m : Nat} {t' c' : Int → Int} (h : Kn τ V m t' c') : τ 0 36 = m ∧ m ≤ 60 := h.2.2.2.1
theorem Kn.t {τ : Sg} {V : Vw} {m : Nat} {t' c' : Int → Int} (h : Kn τ V m t' c') : τ 26 = t' ∧ τ 27 = c' ∧ ∀ j : Int, 0 ≤ j → j < m → (0 ≤ t' j ∧ t' j ≤ 20010) := h.2.2.2.2
theorem Kn.mk {τ : Sg} {V : Vw} {m : Nat} {t' c' : Int → Int} (v : vw τ = V) (r : ∃ σ, RelN σ V) (p : ∀ c, 0 ≤ c → c < V.2.2.2.2.2.1 → τ 41 c = fateV V c ∧ (isSh (fateV V c) → τ 42 c = hasV V c)) (hm : τ 0 36 = m ∧ m ≤ 60) (t : τ 26 = t' ∧ τ 27 = c' ∧ ∀ j : Int, 0 ≤ j → j < m → (0 ≤ t' j ∧ t' j ≤ 20010)) : Kn τ V m t' c' := ⟨v, r, p, hm, t⟩
theorem Kn.congr {τ' : Sg} {m : Nat} {t' c' : Int → Int} (K : Kn τ V m t' c') (h : ∀ j, j ≠ 43 → j ≠ 44 → τ' j = τ j) : Kn τ' V m t' c' := by
  refine ⟨?_, K.r, ?_, ?_, ?_⟩
  · rw [← K.v]; exact vw_congr (fun j hj => h j (ne_of_mem hj (by decide)) (ne_of_mem hj (by decide))) (by rw [h 0 (by decide) (by decide)]) (by rw [h 0 (by decide) (by decide)]) (by rw [h 0 (by decide) (by decide)]) (by rw [h 0 (by decide) (by decide)])
  · rw [h 41 (by decide) (by decide), h 42 (by decide) (by decide)]; exact K.p
  · rw [h 0 (by decide) (by decide)]; exact K.hm
  · rw [h 26 (by decide) (by decide), h 27 (by decide) (by decide)]; exact K.t
theorem rr_mayBe {m : Nat} {t' c' : Int → Int} (K : Kn τ V m t' c') {c j : Int} (h0 : 0 ≤ c) (h1 : c < V.2.2.2.2.2.1) (hs : isSh (fateV V c)) (j0 : 0 ≤ j) (j1 : j < m) : fX12_mayBe c j τ = some (bi (mbV V t' c' c j)) := by
  obtain ⟨σ, R⟩ := K.r
  have hn := R.n
  have ht := has_told R h0 h1 hs
  have hk := (R.k _ ht.1.1 ht.1.2).2.2 ht.2
  have hb := bst_rng R h0 h1
  have hm := K.hm
  have tr := K.t.2.2 j j0 j1
  have e6 : τ 6 = V.2.1.1 := by rw [← K.v]
  have e7 : τ 7 = V.2.1.2.1 := by rw [← K.v]
  have e13 : τ 13 = V.2.2.1.2.2.1 := by rw [← K.v]
  have hp := (K.p c h0 h1).2 hs
  have hti := ht.1
  unfold fX12_mayBe
  rw [rd_e j0 (by omega), rd_e h0 (by omega), hp, rd_e hti.1 (by omega), K.t.2.1, e6]
  by_cases c1 : c' j = V.2.1.1 (hasV V c)
  · rw [iT c1, rd_e j0 (by omega), rd_e h0 (by omega), K.t.1, e13, ck_e (by omega) (by omega), rr_amount (by omega) (by omega)]; simp only [bnd_e]
    rw [rd_e h0 (by omega), hp, rd_e hti.1 (by omega), e7]
    by_cases c2 : abI (t' j - V.2.2.1.2.2.1 c) ≤ V.2.1.2.1 (hasV V c)
    · rw [iT c2, bi_T ⟨c1, c2⟩]
    · rw [iF c2, bi_F (fun y => c2 y.2)]
  · rw [iF c1, bi_F (fun y => c1 y.1)]
noncomputable def unm (m : Nat) (f : Int → Int) : Int := sumI (fun j => bi (f j = 0)) m 0
theorem sum_le {P Q : Int → Prop} : ∀ (n : Nat) (i : Int), (∀ j : Int, i ≤ j → j < i + n → P j → Q j) → sumI (fun j => bi (P j)) n i ≤ sumI (fun j => bi (Q j)) n i
  | 0, _, _ => Int.le_refl _
  | n + 1, i, h => by
    rw [sumI_s, sumI_s]
    have := sum_le (P := P) (Q := Q) n (i + 1) (fun j j0 j1 => h j (by omega) (by omega))
    by_cases c : P i
    · rw [bi_T c, bi_T (h i (by omega) (by omega) c)]; omega
    · rw [bi_F c]; have := bi_rng (p := Q i); omega
theorem unm_mono {m : Nat} {f g : Int → Int} (h : ∀ j : Int, 0 ≤ j → j < m → f j ≠ 0 → g j ≠ 0) : unm m g ≤ unm m f := sum_le m 0 (fun j j0 j1 hj => Classical.byContradiction (fun x => h j j0 (by omega) x hj))
theorem unm_mark {m : Nat} {f g : Int → Int} {i : Int} (h0 : 0 ≤ i) (h1 : i < m) (hf : f i = 0) (hg : ∀ j : Int, 0 ≤ j → j < m → (g j = 0 ↔ f j = 0 ∧ j ≠ i)) : unm m g + 1 = unm m f := by
  have e : unm m g = sumI (fun j => bi (f j = 0 ∧ j ≠ i)) m 0 := sumI_cong (fun j j0 j1 => bi_cong (hg j j0 (by omega)))
  rw [e]; exact sum_rm m 0 h0 (by omega) hf

def clo (m : Nat) (mb : Int → Int → Prop) (T : Int → Int) (C : Int → Prop) : Prop := ∀ j : Int, 0 ≤ j → j < m → C j → T j ≠ -1 ∧ ∀ j' : Int, 0 ≤ j' → j' < m → mb (T j) j' → C j'
abbrev Fail (m : Nat) (mb : Int → Int → Prop) (c : Int) (T X T' X' : Int → Int) : Prop := (T' = T) ∧ (∀ j : Int, 0 ≤ j → j < m → mb c j → X' j ≠ 0) ∧ (∀ j : Int, 0 ≤ j → j < m → X j = 0 → X' j ≠ 0 → T j ≠ -1 ∧ ∀ j' : Int, 0 ≤ j' → j' < m → mb (T j) j' → X' j' ≠ 0)
theorem Fail.t {m : Nat} {mb : Int → Int → Prop} {c : Int} {T X T' X' : Int → Int} (h : Fail m mb c T X T' X') : T' = T := h.1
theorem Fail.n {m : Nat} {mb : Int → Int → Prop} {c : Int} {T X T' X' : Int → Int} (h : Fail m mb c T X T' X') : ∀ j : Int, 0 ≤ j → j < m → mb c j → X' j ≠ 0 := h.2.1
theorem Fail.k {m : Nat} {mb : Int → Int → Prop} {c : Int} {T X T' X' : Int → Int} (h : Fail m mb c T X T' X') : ∀ j : Int, 0 ≤ j → j < m → X j = 0 → X' j ≠ 0 → T j ≠ -1 ∧ ∀ j' : Int, 0 ≤ j' → j' < m → mb (T j) j' → X' j' ≠ 0 := h.2.2
theorem Fail.mk {m : Nat} {mb : Int → Int → Prop} {c : Int} {T X T' X' : Int → Int} (t : T' = T) (n : ∀ j : Int, 0 ≤ j → j < m → mb c j → X' j ≠ 0) (k : ∀ j : Int, 0 ≤ j → j < m → X j = 0 → X' j ≠ 0 → T j ≠ -1 ∧ ∀ j' : Int, 0 ≤ j' → j' < m → mb (T j) j' → X' j' ≠ 0) : Fail m mb c T X T' X' := ⟨t, n, k⟩
abbrev Succ (m : Nat) (el : Int → Prop) (mb : Int → Int → Prop) (c : Int) (T X T' : Int → Int) : Prop := (∃ j1 : Int, (0 ≤ j1 ∧ j1 < m) ∧ X j1 = 0 ∧ T' j1 = c ∧ ∀ j : Int, 0 ≤ j → j < m → T' j = c → j = j1 ∨ X j ≠ 0) ∧ (∀ j : Int, 0 ≤ j → j < m → X j ≠ 0 → T' j = T j) ∧ (∀ j : Int, 0 ≤ j → j < m → T' j ≠ -1 → el (T' j) ∧ mb (T' j) j) ∧ (∀ j j' : Int, 0 ≤ j → j < m → 0 ≤ j' → j' < m → T' j ≠ -1 → T' j = T' j' → j = j' ∨ T' j = c) ∧ (∀ y, y ≠ c → y ≠ -1 → (∀ j : Int, 0 ≤ j → j < m → T j = y → X j ≠ 0) → ∀ j : Int, 0 ≤ j → j < m → T' j = y → T j = y) ∧ (cntM m T' = cntM m T + 1) ∧ (∀ j : Int, 0 ≤ j → j < m → T j ≠ -1 → ∃ j' : Int, (0 ≤ j' ∧ j' < m) ∧ T' j' = T j) ∧ (∀ j : Int, 0 ≤ j → j < m → T' j ≠ -1 → T' j = c ∨ ∃ j' : Int, (0 ≤ j' ∧ j' < m) ∧ T j' = T' j) ∧ (∀ C : Int → Prop, clo m mb T C → (∀ j : Int, 0 ≤ j → j < m → C j → T' j = T j) ∧ ∃ j : Int, (0 ≤ j ∧ j < m) ∧ mb c j ∧ ¬ C j)
theorem Succ.j {m : Nat} {el : Int → Prop} {mb : Int → Int → Prop} {c : Int} {T X T' : Int → Int} (h : Succ m el mb c T X T') : ∃ j1 : Int, (0 ≤ j1 ∧ j1 < m) ∧ X j1 = 0 ∧ T' j1 = c ∧ ∀ j : Int, 0 ≤ j → j < m → T' j = c → j = j1 ∨ X j ≠ 0 := h.1
theorem Succ.x {m : Nat} {el : Int → Prop} {mb : Int → Int → Prop} {c : Int} {T X T' : Int → Int} (h : Succ m el mb c T X T') : ∀ j : Int, 0 ≤ j → j < m → X j ≠ 0 → T' j = T j := h.2.1
theorem Succ.e {m : Nat} {el : Int → Prop} {mb : Int → Int → Prop} {c : Int} {T X T' : Int → Int} (h : Succ m el mb c T X T') : ∀ j : Int, 0 ≤ j → j < m → T' j ≠ -1 → el (T' j) ∧ mb (T' j) j := h.2.2.1
theorem Succ.i {m : Nat} {el : Int → Prop} {mb : Int → Int → Prop} {c : Int} {T X T' : Int → Int} (h : Succ m el mb c T X T') : ∀ j j' : Int, 0 ≤ j → j < m → 0 ≤ j' → j' < m → T' j ≠ -1 → T' j = T' j' → j = j' ∨ T' j = c := h.2.2.2.1
theorem Succ.y {m : Nat} {el : Int → Prop} {mb : Int → Int → Prop} {c : Int} {T X T' : Int → Int} (h : Succ m el mb c T X T') : ∀ y, y ≠ c → y ≠ -1 → (∀ j : Int, 0 ≤ j → j < m → T j = y → X j ≠ 0) → ∀ j : Int, 0 ≤ j → j < m → T' j = y → T j = y := h.2.2.2.2.1
theorem Succ.n {m : Nat} {el : Int → Prop} {mb : Int → Int → Prop} {c : Int} {T X T' : Int → Int} (h : Succ m el mb c T X T') : cntM m T' = cntM m T + 1 := h.2.2.2.2.2.1
theorem Succ.u {m : Nat} {el : Int → Prop} {mb : Int → Int → Prop} {c : Int} {T X T' : Int → Int} (h : Succ m el mb c T X T') : ∀ j : Int, 0 ≤ j → j < m → T j ≠ -1 → ∃ j' : Int, (0 ≤ j' ∧ j' < m) ∧ T' j' = T j := h.2.2.2.2.2.2.1
theorem Succ.w {m : Nat} {el : Int → Prop} {mb : Int → Int → Prop} {c : Int} {T X T' : Int → Int} (h : Succ m el mb c T X T') : ∀ j : Int, 0 ≤ j → j < m → T' j ≠ -1 → T' j = c ∨ ∃ j' : Int, (0 ≤ j' ∧ j' < m) ∧ T j' = T' j := h.2.2.2.2.2.2.2.1
theorem Succ.k {m : Nat} {el : Int → Prop} {mb : Int → Int → Prop} {c : Int} {T X T' : Int → Int} (h : Succ m el mb c T X T') : ∀ C : Int → Prop, clo m mb T C → (∀ j : Int, 0 ≤ j → j < m → C j → T' j = T j) ∧ ∃ j : Int, (0 ≤ j ∧ j < m) ∧ mb c j ∧ ¬ C j := h.2.2.2.2.2.2.2.2
theorem Succ.mk {m : Nat} {el : Int → Prop} {mb : Int → Int → Prop} {c : Int} {T X T' : Int → Int} (j : ∃ j1 : Int, (0 ≤ j1 ∧ j1 < m) ∧ X j1 = 0 ∧ T' j1 = c ∧ ∀ j : Int, 0 ≤ j → j < m → T' j = c → j = j1 ∨ X j ≠ 0) (x : ∀ j : Int, 0 ≤ j → j < m → X j ≠ 0 → T' j = T j) (e : ∀ j : Int, 0 ≤ j → j < m → T' j ≠ -1 → el (T' j) ∧ mb (T' j) j) (i : ∀ j j' : Int, 0 ≤ j → j < m → 0 ≤ j' → j' < m → T' j ≠ -1 → T' j = T' j' → j = j' ∨ T' j = c) (y : ∀ y, y ≠ c → y ≠ -1 → (∀ j : Int, 0 ≤ j → j < m → T j = y → X j ≠ 0) → ∀ j : Int, 0 ≤ j → j < m → T' j = y → T j = y) (n : cntM m T' = cntM m T + 1) (u : ∀ j : Int, 0 ≤ j → j < m → T j ≠ -1 → ∃ j' : Int, (0 ≤ j' ∧ j' < m) ∧ T' j' = T j) (w : ∀ j : Int, 0 ≤ j → j < m → T' j ≠ -1 → T' j = c ∨ ∃ j' : Int, (0 ≤ j' ∧ j' < m) ∧ T j' = T' j) (k : ∀ C : Int → Prop, clo m mb T C → (∀ j : Int, 0 ≤ j → j < m → C j → T' j = T j) ∧ ∃ j : Int, (0 ≤ j ∧ j < m) ∧ mb c j ∧ ¬ C j) : Succ m el mb c T X T' := ⟨j, x, e, i, y, n, u, w, k⟩
theorem cnt_upd {m : Nat} {T : Int → Int} {i c : Int} (h0 : 0 ≤ i) (h1 : i < m) (hc : c ≠ -1) : cntM m (zupd T i c) = cntM m T + (if T i = -1 then 1 else 0) := by
  have e1 : sumI (fun j => bi (zupd T i c j ≠ -1 ∧ j ≠ i)) m 0 + 1 = cntM m (zupd T i c) := sum_rm (Q := fun j => zupd T i c j ≠ -1) m 0 h0 (by omega) (by rw [zupd_T rfl]; exact hc)
  have e2 : sumI (fun j => bi (zupd T i c j ≠ -1 ∧ j ≠ i)) m 0 = sumI (fun j => bi (T j ≠ -1 ∧ j ≠ i)) m 0 := sumI_cong (fun j _ _ => bi_cong ⟨fun y => ⟨by rw [← zupd_F (a := T) (v := c) y.2]; exact y.1, y.2⟩, fun y => ⟨by rw [zupd_F y.2]; exact y.1, y.2⟩⟩)
  by_cases h : T i = -1
  · rw [if_pos h]
    have e3 : sumI (fun j => bi (T j ≠ -1 ∧ j ≠ i)) m 0 = cntM m T := sumI_cong (fun j _ _ => bi_cong ⟨fun y => y.1, fun y => ⟨y, fun e => y (by rw [e]; exact h)⟩⟩)
    omega
  · rw [if_neg h]
    have e3 : sumI (fun j => bi (T j ≠ -1 ∧ j ≠ i)) m 0 + 1 = cntM m T := sum_rm (Q := fun j => T j ≠ -1) m 0 h0 (by omega) h
    omega

theorem succ_free {m : Nat} {el : Int → Prop} {mb : Int → Int → Prop} {c i : Int} {T X : Int → Int} (W : Val m el mb T) (hX : ∀ j : Int, 0 ≤ j → j < m → T j = c → X j ≠ 0) (hc : el c) (hc1 : c ≠ -1) (h0 : 0 ≤ i) (h1 : i < m) (hx : X i = 0) (hm : mb c i) (hT : T i = -1) : Succ m el mb c T X (zupd T i c) := by
  refine ⟨⟨i, ⟨h0, h1⟩, hx, zupd_T rfl, ?_⟩, ?_, ?_, ?_, ?_, ?_, ?_, ?_, ?_⟩
  · intro j j0 j1 hj
    by_cases e : j = i
    · exact .inl e
    · rw [zupd_F e] at hj; exact .inr (hX j j0 j1 hj)
  · intro j j0 j1 hj; exact zupd_F (fun e => hj (by rw [e]; exact hx))
  · intro j j0 j1 hj
    by_cases e : j = i
    · rw [zupd_T e, e]; exact ⟨hc, hm⟩
    · rw [zupd_F e] at hj ⊢; exact W.e j j0 j1 hj
  · intro j j' j0 j1 k0 k1 hj he
    by_cases e : j = i
    · right; exact zupd_T e
    · by_cases e' : j' = i
      · right; rw [he]; exact zupd_T e'
      · rw [zupd_F e] at hj he; rw [zupd_F e'] at he; left; exact W.i j j' j0 j1 k0 k1 hj he
  · intro y hy _ _ j j0 j1 hj
    by_cases e : j = i
    · rw [zupd_T e] at hj; exact absurd hj.symm hy
    · rw [zupd_F e] at hj; exact hj
  · rw [cnt_upd h0 h1 hc1, if_pos hT]
  · intro j j0 j1 hj
    exact ⟨j, ⟨j0, j1⟩, zupd_F (fun e => hj (by rw [e]; exact hT))⟩
  · intro j j0 j1 hj
    by_cases e : j = i
    · left; exact zupd_T e
    · right; rw [zupd_F e]; exact ⟨j, ⟨j0, j1⟩, rfl⟩
  · intro C hC
    have hi : ¬ C i := fun h => (hC i h0 h1 h).1 hT
    exact ⟨fun j j0 j1 h => zupd_F (fun e => hi (by rw [← e]; exact h)), i, ⟨h0, h1⟩, hm, hi⟩

theorem succ_more {m : Nat} {el : Int → Prop} {mb : Int → Int → Prop} {c i : Int} {T X X3 T4 : Int → Int} (W : Val m el mb T) (hX : ∀ j : Int, 0 ≤ j → j < m → T j = c → X j ≠ 0) (hc : el c) (hc1 : c ≠ -1) (h0 : 0 ≤ i) (h1 : i < m) (hx : X i = 0) (hm : mb c i) (hT : T i ≠ -1) (h3 : X3 i ≠ 0) (hXX : ∀ j : Int, 0 ≤ j → j < m → X j ≠ 0 → X3 j ≠ 0) (S : Succ m el mb (T i) T X3 T4) : Succ m el mb c T X (zupd T4 i c) := by
  have hci : T i ≠ c := fun e => hX i h0 h1 e hx
  obtain ⟨j1, ⟨b0, b1⟩, b2, b3, b4⟩ := S.j
  have hj1 : j1 ≠ i := fun e => h3 (by rw [← e]; exact b2)
  have T4i : T4 i = T i := S.x i h0 h1 h3
  have cin : ∀ j : Int, 0 ≤ j → j < m → T4 j = c → X j ≠ 0 := fun j j0 j1 h => hX j j0 j1 (S.y c hci.symm hc1 (fun j j0 j1 e => hXX j j0 j1 (hX j j0 j1 e)) j j0 j1 h)
  refine ⟨⟨i, ⟨h0, h1⟩, hx, zupd_T rfl, ?_⟩, ?_, ?_, ?_, ?_, ?_, ?_, ?_, ?_⟩
  · intro j j0 j1 hj
    by_cases e : j = i
    · exact .inl e
    · rw [zupd_F e] at hj; exact .inr (cin j j0 j1 hj)
  · intro j j0 j1 hj
    rw [zupd_F (fun e => hj (by rw [e]; exact hx))]; exact S.x j j0 j1 (hXX j j0 j1 hj)
  · intro j j0 j1 hj
    by_cases e : j = i
    · rw [zupd_T e, e]; exact ⟨hc, hm⟩
    · rw [zupd_F e] at hj ⊢; exact S.e j j0 j1 hj
  · intro j j' j0 j1' k0 k1 hj he
    by_cases e : j = i
    · right; exact zupd_T e
    · by_cases e' : j' = i
      · right; rw [he]; exact zupd_T e'
      · rw [zupd_F e] at hj he; rw [zupd_F e'] at he
        rcases S.i j j' j0 j1' k0 k1 hj he with x | x
        · exact .inl x
        · 
          have only : ∀ q : Int, 0 ≤ q → q < m → q ≠ i → T4 q = T i → q = j1 := by
            intro q q0 q1 qi qe
            rcases b4 q q0 q1 qe with z | z
            · exact z
            · have := S.x q q0 q1 z
              rw [qe] at this
              exact absurd (W.i i q h0 h1 q0 q1 hT this).symm qi
          left; rw [only j j0 j1' e x, only j' k0 k1 e' (by rw [← he]; exact x)]
  · intro y hy hy1 hyX j j0 j1' hj
    by_cases e : j = i
    · rw [zupd_T e] at hj; exact absurd hj.symm hy
    · rw [zupd_F e] at hj
      have hyc : y ≠ T i := fun e2 => hyX i h0 h1 e2.symm hx
      exact S.y y hyc hy1 (fun q q0 q1 qe => hXX q q0 q1 (hyX q q0 q1 qe)) j j0 j1' hj
  · rw [cnt_upd h0 h1 hc1, if_neg (by rw [T4i]; exact hT), S.n]; omega
  · intro j j0 j1' hj
    obtain ⟨q, ⟨q0, q1⟩, q2⟩ := S.u j j0 j1' hj
    by_cases e : q = i
    · rw [e, T4i] at q2
      exact ⟨j1, ⟨b0, b1⟩, by rw [zupd_F hj1, b3]; exact q2⟩
    · exact ⟨q, ⟨q0, q1⟩, by rw [zupd_F e]; exact q2⟩
  · intro j j0 j1' hj
    by_cases e : j = i
    · left; exact zupd_T e
    · right
      rw [zupd_F e] at hj ⊢
      rcases S.w j j0 j1' hj with x | x
      · exact ⟨i, ⟨h0, h1⟩, x.symm⟩
      · exact x
  · intro C hC
    obtain ⟨k1, q, ⟨q0, q1⟩, q2, q3⟩ := S.k C hC
    have hi : ¬ C i := fun h => q3 ((hC i h0 h1 h).2 q q0 q1 q2)
    exact ⟨fun j j0 j1' h => by rw [zupd_F (fun e => hi (by rw [← e]; exact h))]; exact k1 j j0 j1' h, i, ⟨h0, h1⟩, hm, hi⟩
end

