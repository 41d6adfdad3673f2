section
set_option linter.unusedVariables false
variable {σ τ : Sg} {V : Vw} {N : Int}
theorem finds_spec {m : Nat} {t' c' : Int → Int} {x : Int} : ∀ (D : Nat) (c : Int) (τ : Sg), Kn τ V m t' c' → Val m (el V x) (mbV V t' c') (τ 43) → el V x c → (∀ j : Int, 0 ≤ j → j < m → τ 43 j = c → τ 44 j ≠ 0) → unm m (τ 44) < D →
    ∃ b τ', fX12_finds D c τ = some (b, τ') ∧ (∀ j, j ≠ 43 → j ≠ 44 → τ' j = τ j) ∧ (∀ j : Int, 0 ≤ j → j < m → τ 44 j ≠ 0 → τ' 44 j ≠ 0) ∧
      ((b = 0 ∧ Fail m (mbV V t' c') c (τ 43) (τ 44) (τ' 43) (τ' 44)) ∨ (b = 1 ∧ Succ m (el V x) (mbV V t' c') c (τ 43) (τ 44) (τ' 43))) := by
  intro D
  induction D with
  | zero =>
    intro c τ _ _ _ _ h
    have := (sumI_rng (g := fun j => bi (τ 44 j = 0)) (fun j => bi_rng) m 0).1
    unfold unm at h; omega
  | succ D ihD =>
    intro c τ K W hc hX hu
    have hm := K.hm
    have hc0 := hc.1
    have hcm1 : c ≠ -1 := by omega
    have loop : ∀ (n : Nat) (i : Int) (τ2 : Sg), (∀ j, j ≠ 44 → τ2 j = τ j) → (∀ j : Int, 0 ≤ j → j < m → τ 44 j ≠ 0 → τ2 44 j ≠ 0) → (∀ j : Int, 0 ≤ j → j < i → j < m → mbV V t' c' c j → τ2 44 j ≠ 0) →
        (∀ j : Int, 0 ≤ j → j < m → τ 44 j = 0 → τ2 44 j ≠ 0 → τ 43 j ≠ -1 ∧ ∀ j' : Int, 0 ≤ j' → j' < m → mbV V t' c' (τ 43 j) j' → τ2 44 j' ≠ 0) → 0 ≤ i → (m : Int) - i < (n : Int) → 0 < n →
        (∃ τ', fX12_finds_L2 (fX12_finds D) n c i τ2 = some (.inr τ') ∧ (∀ j, j ≠ 44 → τ' j = τ j) ∧ (∀ j : Int, 0 ≤ j → j < m → τ 44 j ≠ 0 → τ' 44 j ≠ 0) ∧ Fail m (mbV V t' c') c (τ 43) (τ 44) (τ' 43) (τ' 44)) ∨
        (∃ q τ', fX12_finds_L2 (fX12_finds D) n c i τ2 = some (.inl (q, τ')) ∧ (0 ≤ q ∧ q < m) ∧ (∀ j, j ≠ 43 → j ≠ 44 → τ' j = τ j) ∧ (∀ j : Int, 0 ≤ j → j < m → τ 44 j ≠ 0 → τ' 44 j ≠ 0) ∧ Succ m (el V x) (mbV V t' c') c (τ 43) (τ 44) (zupd (τ' 43) q c)) := by
      intro n
      induction n with
      | zero => intro i τ2 _ _ _ _ _ h; omega
      | succ n ihn =>
        intro i τ2 F G H1 H2 i0 hn _
        have K2 : Kn τ2 V m t' c' := K.congr (fun j j1 j2 => F j j2)
        have T2 : τ2 43 = τ 43 := F 43 (by decide)
        unfold fX12_finds_L2
        rw [K2.hm.1]
        by_cases hi : i < m
        · have nxt : ∀ τ3, fX12_finds_L2P72 (fX12_finds D) (fX12_finds_L2 (fX12_finds D) n) c i τ3 = fX12_finds_L2 (fX12_finds D) n c (i + 1) τ3 := fun τ3 => by
            unfold fX12_finds_L2P72; rw [ck_e (by omega) (by omega)]
          rw [iT hi, rd_e i0 (by omega)]
          by_cases met : τ2 44 i = 0
          · rw [iT met, rr_mayBe K2 hc0.1 hc0.2 hc.2.1 i0 hi]; simp only [bnd_e]
            by_cases my : mbV V t' c' c i
            · rw [bi_T my, iF (show ¬ (1 : Int) = 0 by decide), wrZ_e i0 (by omega) (by omega) (by omega), rd_e i0 (by omega), put_ne (by decide), T2]
              have hx : τ 44 i = 0 := Classical.byContradiction (fun h => G i i0 hi h met)
              have F3 : ∀ j, j ≠ 44 → put τ2 44 i 1 j = τ j := fun j hj => by rw [put_ne hj, F j hj]
              have mk : ∀ j : Int, 0 ≤ j → j < m → (put τ2 44 i 1 44 j = 0 ↔ τ2 44 j = 0 ∧ j ≠ i) := fun j j0 j1 => by
                by_cases e : j = i
                · rw [put_T e]; constructor
                  · intro h; omega
                  · intro h; exact absurd e h.2
                · rw [put_F e]; exact ⟨fun h => ⟨h, e⟩, fun h => h.1⟩
              have G3 : ∀ j : Int, 0 ≤ j → j < m → τ2 44 j ≠ 0 → put τ2 44 i 1 44 j ≠ 0 := fun j j0 j1 h h' => h ((mk j j0 j1).1 h').1
              by_cases tk : τ 43 i = -1
              · rw [iT (by omega)]
                refine .inr ⟨i, _, rfl, ⟨i0, hi⟩, fun j j1 j2 => F3 j j2, fun j j0 j1 h => G3 j j0 j1 (G j j0 j1 h), ?_⟩
                rw [F3 43 (by decide)]
                exact succ_free W hX hc hcm1 i0 hi hx my tk
              · obtain ⟨et, mt⟩ := W.e i i0 hi tk
                have et0 := et.1
                rw [iF (by omega), rd_e i0 (by omega), put_ne (by decide), T2]
                have u1 := unm_mark (f := τ2 44) (g := put τ2 44 i 1 44) i0 hi met mk
                have u2 := unm_mono (m := m) G
                obtain ⟨b, τ4, a1, a2, a3, a4⟩ := ihD (τ 43 i) (put τ2 44 i 1) (K.congr (fun j j1 j2 => F3 j j2)) (by rw [F3 43 (by decide)]; exact W) et (fun j j0 j1 h => by
                  rw [F3 43 (by decide)] at h
                  have : j = i := W.i j i j0 j1 i0 hi (by rw [h]; exact tk) h
                  rw [put_T this]; omega) (by omega)
                rw [a1]; simp only [bnd_e]
                have h3 : put τ2 44 i 1 44 i ≠ 0 := by rw [put_T rfl]; omega
                rw [F3 43 (by decide)] at a4
                rcases a4 with ⟨rfl, Fl⟩ | ⟨rfl, Sc⟩
                · rw [iT rfl, nxt]
                  refine ihn (i + 1) τ4 (fun j hj => ?_) (fun j j0 j1 h => a3 j j0 j1 (G3 j j0 j1 (G j j0 j1 h))) (fun j j0 j1 j2 h => ?_) (fun j j0 j1 h h' => ?_) (by omega) (by omega) (by omega)
                  · by_cases e : j = 43
                    · rw [e]; exact Fl.t
                    · rw [a2 j e hj]; exact F3 j hj
                  · by_cases e : j = i
                    · rw [e]; exact a3 i i0 hi h3
                    · exact a3 j j0 j2 (G3 j j0 j2 (H1 j j0 (by omega) j2 h))
                  · by_cases e : j = i
                    · rw [e]; exact ⟨tk, fun j' k0 k1 hb => Fl.n j' k0 k1 hb⟩
                    · by_cases e2 : τ2 44 j = 0
                      · exact Fl.k j j0 j1 ((mk j j0 j1).2 ⟨e2, e⟩) h'
                      · obtain ⟨p1, p2⟩ := H2 j j0 j1 h e2
                        exact ⟨p1, fun j' k0 k1 hb => a3 j' k0 k1 (G3 j' k0 k1 (p2 j' k0 k1 hb))⟩
                · rw [iF (by decide)]
                  refine .inr ⟨i, τ4, rfl, ⟨i0, hi⟩, fun j j1 j2 => by rw [a2 j j1 j2]; exact F3 j j2, fun j j0 j1 h => a3 j j0 j1 (G3 j j0 j1 (G j j0 j1 h)), ?_⟩
                  exact succ_more W hX hc hcm1 i0 hi hx my tk h3 (fun j j0 j1 h => G3 j j0 j1 (G j j0 j1 h)) Sc
            · rw [bi_F my, iT rfl, nxt]
              refine ihn (i + 1) τ2 F G (fun j j0 j1 j2 h => ?_) H2 (by omega) (by omega) (by omega)
              by_cases e : j = i
              · exact absurd (e ▸ h) my
              · exact H1 j j0 (by omega) j2 h
          · rw [iF met, nxt]
            refine ihn (i + 1) τ2 F G (fun j j0 j1 j2 h => ?_) H2 (by omega) (by omega) (by omega)
            by_cases e : j = i
            · rw [e]; exact met
            · exact H1 j j0 (by omega) j2 h
        · rw [iF hi]
          refine .inl ⟨τ2, rfl, F, G, ⟨T2, fun j j0 j1 h => H1 j j0 (by omega) j1 h, H2⟩⟩
    unfold fX12_finds
    rcases loop fu 0 τ (fun _ _ => rfl) (fun _ _ _ h => h) (fun j j0 j1 => by omega) (fun j j0 j1 h h' => absurd h h') (by omega) (by rw [fu_i]; omega) fu_pos with ⟨τ', a1, a2, a3, a4⟩ | ⟨q, τ', a1, a2, a3, a4, a5⟩
    · rw [a1]; exact ⟨0, τ', rfl, fun j _ j2 => a2 j j2, a3, .inl ⟨rfl, a4⟩⟩
    · rw [a1]; simp only [bnd_e, Sum.elim_inl]
      rw [wr_e a2.1 (by omega)]
      refine ⟨1, _, rfl, fun j j1 j2 => by rw [put_ne j1, a3 j j1 j2], fun j j0 j1 h => by rw [put_ne (by decide)]; exact a4 j j0 j1 h, .inr ⟨rfl, ?_⟩⟩
      rw [put_self]; exact a5
theorem rr_isShown {m : Nat} {t' c' : Int → Int} (K : Kn τ V m t' c') {c : Int} (h0 : 0 ≤ c) (h1 : c < V.2.2.2.2.2.1) : fX12_isShown c τ = some (bi (isSh (fateV V c))) := by
  obtain ⟨σ, R⟩ := K.r
  have hn := R.n
  have hr := fateV_rng R h0 h1
  unfold fX12_isShown fX12_isShown_P20
  rw [rd_e h0 (by omega), (K.p c h0 h1).1]
  by_cases c1 : fateV V c < 2
  · rw [iT c1, bi_T (by unfold isSh; omega)]
  · rw [iF c1, rd_e h0 (by omega), (K.p c h0 h1).1]
    by_cases c2 : fateV V c = 5
    · rw [iT c2, bi_T (by unfold isSh; omega)]
    · rw [iF c2, bi_F (by unfold isSh; omega)]
theorem rr_clr54 {x a c : Int} {m : Nat} (hm : m ≤ 60) : ∀ (n : Nat) (i : Int) (s : Sg), s 0 36 = m → 0 ≤ i → (m : Int) - i < (n : Int) → 0 < n → ∃ s', fX12_matching_L54 n x a c i s = some s' ∧ (∀ j, j ≠ 44 → s' j = s j) ∧ (∀ k, i ≤ k → k < (m : Int) → s' 44 k = 0) ∧ (∀ k, k < i → s' 44 k = s 44 k) := by
  intro n
  induction n with
  | zero => intro i s _ _ h; omega
  | succ n ih =>
    intro i s hs h0 h1 _
    unfold fX12_matching_L54
    by_cases c1 : i < m
    · rw [iT (by omega), wrZ_e h0 (by omega) (by omega) (by omega), ck_e (by omega) (by omega)]
      obtain ⟨s', a1, a2, a3, a4⟩ := ih (i + 1) (put s 44 i 0) (by rw [put_ne (by decide)]; exact hs) (by omega) (by omega) (by omega)
      refine ⟨s', a1, fun j hj => by rw [a2 j hj, put_ne hj], fun k k0 k1 => ?_, fun k hk => by rw [a4 k (by omega), put_F (by omega)]⟩
      by_cases e : k = i
      · rw [e, a4 i (by omega), put_T rfl]
      · exact a3 k (by omega) k1
    · rw [iF (by omega)]; exact ⟨s, rfl, fun _ _ => rfl, fun k k0 k1 => by omega, fun _ _ => rfl⟩
theorem rr_clr4 {x a : Int} {m : Nat} (hm : m ≤ 60) : ∀ (n : Nat) (i : Int) (s : Sg), s 0 36 = m → 0 ≤ i → (m : Int) - i < (n : Int) → 0 < n → ∃ s', fX12_matching_L4 n x a i s = some s' ∧ (∀ j, j ≠ 43 → s' j = s j) ∧ (∀ k, i ≤ k → k < (m : Int) → s' 43 k = -1) ∧ (∀ k, k < i → s' 43 k = s 43 k) := by
  intro n
  induction n with
  | zero => intro i s _ _ h; omega
  | succ n ih =>
    intro i s hs h0 h1 _
    unfold fX12_matching_L4
    by_cases c1 : i < m
    · rw [iT (by omega), wr_e h0 (by omega), ck_e (by omega) (by omega)]
      obtain ⟨s', a1, a2, a3, a4⟩ := ih (i + 1) (put s 43 i (-1)) (by rw [put_ne (by decide)]; exact hs) (by omega) (by omega) (by omega)
      refine ⟨s', a1, fun j hj => by rw [a2 j hj, put_ne hj], fun k k0 k1 => ?_, fun k hk => by rw [a4 k (by omega), put_F (by omega)]⟩
      by_cases e : k = i
      · rw [e, a4 i (by omega), put_T rfl]
      · exact a3 k (by omega) k1
    · rw [iF (by omega)]; exact ⟨s, rfl, fun _ _ => rfl, fun k k0 k1 => by omega, fun _ _ => rfl⟩

theorem rr_matchL {m : Nat} {t' c' : Int → Int} {x : Int} {τ0 : Sg} (K0 : Kn τ0 V m t' c') : ∀ (n : Nat) (c a : Int) (τ : Sg), (∀ j, j ≠ 43 → j ≠ 44 → τ j = τ0 j) → (0 ≤ c ∧ c ≤ V.2.2.2.2.2.1) → Val m (fun y => el V x y ∧ y < c) (mbV V t' c') (τ 43) → cntM m (τ 43) = a → (0 ≤ a ∧ a ≤ c) → (∃ M, Cer m (fun y => el V x y ∧ y < c) (mbV V t' c') (τ 43) M) → V.2.2.2.2.2.1 - c < (n : Int) → 0 < n →
    ∃ τ', fX12_matching_L27 n x a c τ = some (cntM m (τ' 43), τ') ∧ (∀ j, j ≠ 43 → j ≠ 44 → τ' j = τ0 j) ∧ Val m (el V x) (mbV V t' c') (τ' 43) ∧ ∃ M, Cer m (el V x) (mbV V t' c') (τ' 43) M := by
  have hm0 := K0.hm
  obtain ⟨σ, R⟩ := K0.r
  have hn0 := R.n
  intro n
  induction n with
  | zero => intro c a τ _ _ _ _ _ _ h; omega
  | succ n ih =>
    intro c a τ F hc W ha hac C hn _
    have K : Kn τ V m t' c' := K0.congr F
    have e32 : τ 0 32 = V.2.2.2.2.2.1 := by rw [F 0 (by decide) (by decide), ← K0.v]
    unfold fX12_matching_L27
    by_cases h : c < V.2.2.2.2.2.1
    · have nx : ∀ b τ2, fX12_matching_L27P93 (fX12_matching_L27 n) x b c τ2 = fX12_matching_L27 n x b (c + 1) τ2 := fun b τ2 => by
        unfold fX12_matching_L27P93; rw [ck_e (by omega) (by omega)]
      have skip : ¬ el V x c → ∃ τ', fX12_matching_L27 n x a (c + 1) τ = some (cntM m (τ' 43), τ') ∧ (∀ j, j ≠ 43 → j ≠ 44 → τ' j = τ0 j) ∧ Val m (el V x) (mbV V t' c') (τ' 43) ∧ ∃ M, Cer m (el V x) (mbV V t' c') (τ' 43) M := by
        intro hne
        have eq : ∀ y, (el V x y ∧ y < c) ↔ (el V x y ∧ y < c + 1) := fun y => ⟨fun z => ⟨z.1, by omega⟩, fun z => ⟨z.1, by
          by_cases e : y = c
          · exact absurd (e ▸ z.1) hne
          · omega⟩⟩
        obtain ⟨M, CM⟩ := C
        refine ih (c + 1) a τ F (by omega) ⟨fun j j0 j1 hj => ⟨(eq _).1 (W.e j j0 j1 hj).1, (W.e j j0 j1 hj).2⟩, W.i⟩ ha (by omega) ⟨M, ⟨CM.a, fun y hy => CM.u y ((eq y).2 hy), CM.k⟩⟩ (by omega) (by omega)
      rw [iT (by omega)]
      by_cases cx : c = x
      · rw [iT cx, nx]; exact skip (fun z => z.2.2 cx)
      · rw [iF cx, rr_isShown K hc.1 h]; simp only [bnd_e]
        by_cases sh : isSh (fateV V c)
        · have hel : el V x c := ⟨⟨hc.1, h⟩, sh, cx⟩
          rw [bi_T sh, iF (show ¬ (1 : Int) = 0 by decide)]
          obtain ⟨τ1, a1, a2, a3, -⟩ := rr_clr54 (x := x) (a := a) (c := c) (m := m) hm0.2 fu 0 τ (by rw [F 0 (by decide) (by decide)]; exact hm0.1) (by omega) (by rw [fu_i]; omega) fu_pos
          have T1 : τ1 43 = τ 43 := a2 43 (by decide)
          have W1 : Val m (el V x) (mbV V t' c') (τ1 43) := by rw [T1]; exact ⟨fun j j0 j1 hj => ⟨(W.e j j0 j1 hj).1.1, (W.e j j0 j1 hj).2⟩, W.i⟩
          have ur : unm m (τ1 44) ≤ m := (sumI_rng (g := fun j => bi (τ1 44 j = 0)) (fun j => bi_rng) m 0).2
          have noc : ∀ j : Int, 0 ≤ j → j < m → τ 43 j ≠ c := fun j j0 j1 e => by
            have := (W.e j j0 j1 (by rw [e]; omega)).1.2
            omega
          obtain ⟨b, τ2, b1, b2, b3, b4⟩ := finds_spec (x := x) 62 c τ1 (K.congr (fun j j1 j2 => a2 j j2)) W1 hel (fun j j0 j1 e => by rw [T1] at e; exact absurd e (noc j j0 j1)) (by omega)
          rw [a1]; simp only [bnd_e]
          rw [b1]; simp only [bnd_e]
          rw [T1] at b4
          have F2 : ∀ j, j ≠ 43 → j ≠ 44 → τ2 j = τ0 j := fun j j1 j2 => by rw [b2 j j1 j2, a2 j j2, F j j1 j2]
          obtain ⟨M, CM⟩ := C
          unfold fX12_matching_L27P91
          rcases b4 with ⟨rfl, Fl⟩ | ⟨rfl, Sc⟩
          · rw [iT rfl, ck_e (by omega) (by omega), nx, show a + 0 = a by omega]
            have T2 : τ2 43 = τ 43 := Fl.t
            refine ih (c + 1) a τ2 F2 (by omega) (by rw [T2]; exact ⟨fun j j0 j1 hj => ⟨⟨(W.e j j0 j1 hj).1.1, by have := (W.e j j0 j1 hj).1.2; omega⟩, (W.e j j0 j1 hj).2⟩, W.i⟩) (by rw [T2]; exact ha) (by omega) ⟨fun j => M j ∨ τ2 44 j ≠ 0, ?_⟩ (by omega) (by omega)
            rw [T2]
            refine ⟨?_, ?_, ?_⟩
            · intro j j0 j1 h
              rcases h with h | h
              · exact CM.a j j0 j1 h
              · exact (Fl.k j j0 j1 (a3 j j0 j1) h).1
            · intro y hy hu j j0 j1 hb
              by_cases e : y = c
              · exact .inr (Fl.n j j0 j1 (e ▸ hb))
              · exact .inl (CM.u y ⟨hy.1, by omega⟩ hu j j0 j1 hb)
            · intro j j0 j1 h j' k0 k1 hb
              rcases h with h | h
              · exact .inl (CM.k j j0 j1 h j' k0 k1 hb)
              · exact .inr ((Fl.k j j0 j1 (a3 j j0 j1) h).2 j' k0 k1 hb)
          · rw [iF (show ¬ (1 : Int) = 0 by decide), ck_e (by omega) (by omega), nx]
            obtain ⟨j1, ⟨q0, q1⟩, q2, q3, q4⟩ := Sc.j
            have only : ∀ j : Int, 0 ≤ j → j < m → τ2 43 j = c → j = j1 := fun j j0 j1' e => by
              rcases q4 j j0 j1' e with z | z
              · exact z
              · exact absurd (a3 j j0 j1') z
            obtain ⟨s1, -⟩ := Sc.k M (fun j j0 j1' h => ⟨CM.a j j0 j1' h, CM.k j j0 j1' h⟩)
            refine ih (c + 1) (a + 1) τ2 F2 (by omega) ⟨?_, ?_⟩ (by rw [Sc.n, ha]) (by omega) ⟨M, ?_, ?_, ?_⟩ (by omega) (by omega)
            · intro j j0 j1' hj
              obtain ⟨e1, e2⟩ := Sc.e j j0 j1' hj
              refine ⟨⟨e1, ?_⟩, e2⟩
              rcases Sc.w j j0 j1' hj with z | ⟨j', ⟨k0, k1⟩, z⟩
              · omega
              · have := (W.e j' k0 k1 (by rw [z]; exact hj)).1.2
                rw [z] at this; omega
            · intro j j' j0 j1' k0 k1 hj he
              rcases Sc.i j j' j0 j1' k0 k1 hj he with z | z
              · exact z
              · rw [only j j0 j1' z, only j' k0 k1 (by rw [← he]; exact z)]
            · intro j j0 j1' h; rw [s1 j j0 j1' h]; exact CM.a j j0 j1' h
            · intro y hy hu j j0 j1' hb
              have hyc : y ≠ c := fun e => hu ⟨j1, q0, q1, by rw [q3, e]⟩
              refine CM.u y ⟨hy.1, by omega⟩ (fun ⟨p, p0, p1, p2⟩ => ?_) j j0 j1' hb
              have hy0 := hy.1.1
              obtain ⟨p', ⟨r0, r1⟩, r2⟩ := Sc.u p p0 p1 (by rw [p2]; omega)
              exact hu ⟨p', r0, r1, by rw [r2, p2]⟩
            · intro j j0 j1' h j' k0 k1 hb
              rw [s1 j j0 j1' h] at hb; exact CM.k j j0 j1' h j' k0 k1 hb
        · rw [bi_F sh, iT rfl, nx]; exact skip (fun z => sh z.2.1)
    · rw [iF (by omega)]
      have eq : ∀ y, el V x y → y < c := fun y z => by have := z.1; omega
      obtain ⟨M, CM⟩ := C
      refine ⟨τ, by rw [ha], F, ⟨fun j j0 j1 hj => ⟨(W.e j j0 j1 hj).1.1, (W.e j j0 j1 hj).2⟩, W.i⟩, M, ⟨CM.a, fun y hy => CM.u y ⟨hy, eq y hy⟩, CM.k⟩⟩
theorem rr_matching {m : Nat} {t' c' : Int → Int} {x : Int} (K : Kn τ V m t' c') : ∃ τ', fX12_matching x τ = some (cntM m (τ' 43), τ') ∧ (∀ j, j ≠ 43 → j ≠ 44 → τ' j = τ j) ∧ Val m (el V x) (mbV V t' c') (τ' 43) ∧ ∃ M, Cer m (el V x) (mbV V t' c') (τ' 43) M := by
  have hm := K.hm
  obtain ⟨σ, R⟩ := K.r
  have hn := R.n
  obtain ⟨τ1, a1, a2, a3, -⟩ := rr_clr4 (x := x) (a := 0) (m := m) hm.2 fu 0 τ hm.1 (by omega) (by rw [fu_i]; omega) fu_pos
  have z : cntM m (τ1 43) = 0 := by
    have : cntM m (τ1 43) = sumI (fun _ => 0) m 0 := sumI_cong (fun j j0 j1 => by rw [a3 j j0 (by omega), bi_F (fun h => h rfl)])
    rw [this]
    have := (sumI_rng (g := fun _ => 0) (fun _ => by omega) m 0)
    have z2 : ∀ (n : Nat) (i : Int), sumI (fun _ => (0 : Int)) n i = 0 := by
      intro n
      induction n with
      | zero => intro i; rfl
      | succ n ih => intro i; rw [sumI_s, ih]; rfl
    exact z2 m 0
  obtain ⟨τ2, b1, b2, b3, b4⟩ := rr_matchL (x := x) K fu 0 0 τ1 (fun j j1 _ => a2 j j1) (by omega) ⟨fun j j0 j1 h => absurd (a3 j j0 j1) h, fun j j' j0 j1 _ _ h _ => absurd (a3 j j0 j1) h⟩ z (by omega) ⟨fun _ => False, ⟨fun _ _ _ h => h.elim, fun y hy => by have := hy.1.1; omega, fun _ _ _ h => h.elim⟩⟩ (by rw [fu_i]; omega) fu_pos
  refine ⟨τ2, ?_, b2, b3, b4⟩
  unfold fX12_matching; rw [a1]; simp only [bnd_e]; rw [b1]; rfl
end

section
set_option linter.unusedVariables false
variable {σ τ : Sg} {V : Vw} {N : Int}

abbrev Kc (σ : Sg) (V : Vw) (m : Nat) (tk co : Int → Int) : Prop := (RelN σ V) ∧ (∀ c, 0 ≤ c → c < V.2.2.2.2.2.1 → σ 52 c = fateV V c ∧ (isSh (fateV V c) → σ 53 c = hasV V c)) ∧ (σ 54 6 = m ∧ m ≤ 60) ∧ (σ 55 = tk ∧ σ 56 = co ∧ ∀ j : Int, 0 ≤ j → j < m → (0 ≤ tk j ∧ tk j ≤ 20010))
theorem Kc.r {σ : Sg} {V : Vw} {m : Nat} {tk co : Int → Int} (h : Kc σ V m tk co) : RelN σ V := h.1
theorem Kc.p {σ : Sg} {V : Vw} {m : Nat} {tk co : Int → Int} (h : Kc σ V m tk co) : ∀ c, 0 ≤ c → c < V.2.2.2.2.2.1 → σ 52 c = fateV V c ∧ (isSh (fateV V c) → σ 53 c = hasV V c) := h.2.1
theorem Kc.hm {σ : Sg} {V : Vw} {m : Nat} {tk co : Int → Int} (h : Kc σ V m tk co) : σ 54 6 = m ∧ m ≤ 60 := h.2.2.1
theorem Kc.t {σ : Sg} {V : Vw} {m : Nat} {tk co : Int → Int} (h : Kc σ V m tk co) : σ 55 = tk ∧ σ 56 = co ∧ ∀ j : Int, 0 ≤ j → j < m → (0 ≤ tk j ∧ tk j ≤ 20010) := h.2.2.2
theorem Kc.mk {σ : Sg} {V : Vw} {m : Nat} {tk co : Int → Int} (r : RelN σ V) (p : ∀ c, 0 ≤ c → c < V.2.2.2.2.2.1 → σ 52 c = fateV V c ∧ (isSh (fateV V c) → σ 53 c = hasV V c)) (hm : σ 54 6 = m ∧ m ≤ 60) (t : σ 55 = tk ∧ σ 56 = co ∧ ∀ j : Int, 0 ≤ j → j < m → (0 ≤ tk j ∧ tk j ≤ 20010)) : Kc σ V m tk co := ⟨r, p, hm, t⟩
theorem Kc.congr {σ' : Sg} {m : Nat} {tk co : Int → Int} (K : Kc σ V m tk co) (h : ∀ j, j ≠ 57 → σ' j = σ j) : Kc σ' V m tk co := by
  refine ⟨RelN_congr K.r (fun j hj => h j (ne_of_mem hj (by decide))), ?_, ?_, ?_⟩
  · rw [h 52 (by decide), h 53 (by decide)]; exact K.p
  · rw [h 54 (by decide)]; exact K.hm
  · rw [h 55 (by decide), h 56 (by decide)]; exact K.t
theorem cc_isExp {m : Nat} {tk co : Int → Int} (K : Kc σ V m tk co) {c : Int} (h0 : 0 ≤ c) (h1 : c < V.2.2.2.2.2.1) : fX7_isExpected c σ = some (bi (isSh (fateV V c))) := by
  have hn := K.r.n
  unfold fX7_isExpected fX7_isExpected_P31
  rw [fateOf_e h0 (by omega), (K.p c h0 h1).1, cc_isCue K.r, bi_T ⟨h0, h1⟩]; simp only [bnd_e]
  rw [iF (by decide)]
  generalize fateV V c = F
  by_cases c0 : F = 0
  · rw [iT c0, bi_T (.inl c0)]
  · rw [iF c0]
    by_cases c1 : F = 1
    · rw [iT c1, bi_T (.inr (.inl c1))]
    · rw [iF c1]
      by_cases c5 : F = 5
      · rw [iT c5, bi_T (.inr (.inr c5))]
      · rw [iF c5, bi_F (fun z => by unfold isSh at z; omega)]
theorem cc_had {m : Nat} {tk co : Int → Int} (K : Kc σ V m tk co) {c : Int} (h0 : 0 ≤ c) (h1 : c < V.2.2.2.2.2.1) (hs : isSh (fateV V c)) : fX7_kindHad c σ = some (hasV V c) := by
  have hn := K.r.n
  unfold fX7_kindHad
  rw [iF (by omega), iT (by omega), rd_e h0 (by omega), (K.p c h0 h1).2 hs]
theorem cc_lateOf {m : Nat} {tk co : Int → Int} (K : Kc σ V m tk co) {c : Int} (h0 : 0 ≤ c) (h1 : c < V.2.2.2.2.2.1) (hs : isSh (fateV V c)) : fX10_lateOf c σ = some (V.2.1.2.1 (hasV V c)) := by
  unfold fX10_lateOf; rw [cc_had K h0 h1 hs]; simp only [bnd_e]; rw [cc_late K.r (has_told K.r h0 h1 hs)]; rfl
theorem cc_mayBe {m : Nat} {tk co : Int → Int} (K : Kc σ V m tk co) {c : Int} (h0 : 0 ≤ c) (h1 : c < V.2.2.2.2.2.1) {i : Int} (i0 : 0 ≤ i) (i1 : i < m) : fX10_mayBe c (tk i) (co i) σ = some (bi (isSh (fateV V c) ∧ mbV V tk co c i)) := by
  have hn := K.r.n
  have hb := bst_rng K.r h0 h1
  have ht := K.t.2.2 i i0 i1
  unfold fX10_mayBe
  rw [cc_isExp K h0 h1]; simp only [bnd_e]
  by_cases hs : isSh (fateV V c)
  · have htd := has_told K.r h0 h1 hs
    rw [bi_T hs, iF (by decide), cc_had K h0 h1 hs]; simp only [bnd_e]
    rw [cc_colour K.r htd]; simp only [bnd_e]
    by_cases c1 : V.2.1.1 (hasV V c) = co i
    · have ha : 0 ≤ abI (V.2.2.1.2.2.1 c - tk i) ∧ abI (V.2.2.1.2.2.1 c - tk i) ≤ 20010 := by unfold abI; split <;> omega
      rw [iT c1, cc_burst K.r h0 h1]; simp only [bnd_e]
      rw [ck_e (by omega) (by omega), ck_e (by omega) (by omega), cc_lateOf K h0 h1 hs]; simp only [bnd_e]
      by_cases c2 : abI (V.2.2.1.2.2.1 c - tk i) ≤ V.2.1.2.1 (hasV V c)
      · rw [iT c2, bi_T ⟨hs, c1.symm, by rw [abI_sym]; exact c2⟩]
      · rw [iF c2, bi_F (fun z => c2 (by rw [abI_sym]; exact z.2.2))]
    · rw [iF c1, bi_F (fun z => c1 z.2.1.symm)]
  · rw [bi_F hs, bi_F (fun z => hs z.1)]; rfl
noncomputable def enV (V : Vw) (c : Int) : Int := V.2.2.1.2.2.1 c + V.2.1.2.1 (hasV V c)
def okF (σ : Sg) (V : Vw) (tk co : Int → Int) (x i c : Int) : Prop := el V x c ∧ σ 57 c = 0 ∧ mbV V tk co c i
theorem cc_firstE {m : Nat} {tk co : Int → Int} (K : Kc σ V m tk co) (h57 : ∀ c, 0 ≤ c → c < V.2.2.2.2.2.1 → σ 57 c = 0 ∨ σ 57 c = 1) {x i : Int} (i0 : 0 ≤ i) (i1 : i < m) : ∀ (n : Nat) (c f e : Int), (0 ≤ c ∧ c ≤ V.2.2.2.2.2.1) → ((f = -1 ∧ ∀ c', 0 ≤ c' → c' < c → ¬ okF σ V tk co x i c') ∨ (okF σ V tk co x i f ∧ e = enV V f ∧ ∀ c', 0 ≤ c' → c' < c → okF σ V tk co x i c' → enV V f ≤ enV V c')) → V.2.2.2.2.2.1 - c < (n : Int) → 0 < n →
    ∃ q, fX10_firstToEnd_L9 n (tk i) (co i) x f e c σ = some q ∧ ((q = -1 ∧ ∀ c', 0 ≤ c' → c' < V.2.2.2.2.2.1 → ¬ okF σ V tk co x i c') ∨ (okF σ V tk co x i q ∧ ∀ c', 0 ≤ c' → c' < V.2.2.2.2.2.1 → okF σ V tk co x i c' → enV V q ≤ enV V c')) := by
  have hn0 := K.r.n
  intro n
  induction n with
  | zero => intro c f e _ _ h; omega
  | succ n ih =>
    intro c f e hc H hn _
    unfold fX10_firstToEnd_L9
    by_cases h : c < V.2.2.2.2.2.1
    · have nx : ∀ f' e', fX10_firstToEnd_L9P94 (fX10_firstToEnd_L9 n) (tk i) (co i) x f' e' c σ = fX10_firstToEnd_L9 n (tk i) (co i) x f' e' (c + 1) σ := fun f' e' => by
        unfold fX10_firstToEnd_L9P94; rw [ck_e (by omega) (by omega)]
      have skip : ¬ okF σ V tk co x i c → ∃ q, fX10_firstToEnd_L9 n (tk i) (co i) x f e (c + 1) σ = some q ∧ ((q = -1 ∧ ∀ c', 0 ≤ c' → c' < V.2.2.2.2.2.1 → ¬ okF σ V tk co x i c') ∨ (okF σ V tk co x i q ∧ ∀ c', 0 ≤ c' → c' < V.2.2.2.2.2.1 → okF σ V tk co x i c' → enV V q ≤ enV V c')) := by
        intro hno
        refine ih (c + 1) f e (by omega) ?_ (by omega) (by omega)
        rcases H with ⟨a, b⟩ | ⟨a, b, d⟩
        · refine .inl ⟨a, fun c' k0 k1 => ?_⟩
          by_cases e : c' = c
          · rw [e]; exact hno
          · exact b c' k0 (by omega)
        · refine .inr ⟨a, b, fun c' k0 k1 hk => ?_⟩
          by_cases e : c' = c
          · exact absurd (e ▸ hk) hno
          · exact d c' k0 (by omega) hk
      rw [iT (by omega), iT (by omega)]
      by_cases cx : c = x
      · rw [iT cx, nx]; exact skip (fun z => z.1.2.2 cx)
      · rw [iF cx, rd_e hc.1 (by omega)]
        by_cases c57 : σ 57 c = 0
        · rw [iT c57, cc_mayBe K hc.1 h i0 i1]; simp only [bnd_e]
          by_cases my : isSh (fateV V c) ∧ mbV V tk co c i
          · have ok : okF σ V tk co x i c := ⟨⟨⟨hc.1, h⟩, my.1, cx⟩, c57, my.2⟩
            have hb := bst_rng K.r hc.1 h
            have htd := has_told K.r hc.1 h my.1
            have hk := (K.r.k _ htd.1.1 htd.1.2).2.2 htd.2
            have he : V.2.2.1.2.2.1 c + V.2.1.2.1 (hasV V c) = enV V c := rfl
            rw [bi_T my, iF (show ¬ (1 : Int) = 0 by decide), cc_burst K.r hc.1 h]; simp only [bnd_e]
            rw [cc_lateOf K hc.1 h my.1]; simp only [bnd_e]
            rw [ck_e (by omega) (by omega), he]
            unfold fX10_firstToEnd_L9P86
            rw [nx, nx]
            rcases H with ⟨a, b⟩ | ⟨a, b, d⟩
            · rw [iT a]
              refine ih (c + 1) c (enV V c) (by omega) (.inr ⟨ok, rfl, fun c' k0 k1 hk => ?_⟩) (by omega) (by omega)
              by_cases e : c' = c
              · rw [e]; omega
              · exact absurd hk (b c' k0 (by omega))
            · have hf0 := a.1.1
              rw [iF (by omega), b]
              by_cases lt : enV V c < enV V f
              · rw [iT lt]
                refine ih (c + 1) c (enV V c) (by omega) (.inr ⟨ok, rfl, fun c' k0 k1 hk => ?_⟩) (by omega) (by omega)
                by_cases e : c' = c
                · rw [e]; omega
                · have := d c' k0 (by omega) hk; omega
              · rw [iF lt]
                refine ih (c + 1) f (enV V f) (by omega) (.inr ⟨a, rfl, fun c' k0 k1 hk => ?_⟩) (by omega) (by omega)
                by_cases e : c' = c
                · rw [e]; omega
                · exact d c' k0 (by omega) hk
          · rw [bi_F my, iT rfl, nx]; exact skip (fun z => my ⟨z.1.2.1, z.2.2⟩)
        · rw [iF c57, nx]; exact skip (fun z => c57 z.2.1)
    · rw [iF (by omega)]
      have e : c = V.2.2.2.2.2.1 := by omega
      rw [e] at H
      refine ⟨f, rfl, ?_⟩
      rcases H with ⟨a, b⟩ | ⟨a, b, d⟩
      · exact .inl ⟨a, b⟩
      · exact .inr ⟨a, d⟩
theorem sumI_ext {g h : Int → Int} {n : Nat} (H : ∀ j : Int, 0 ≤ j → j < n → g j = h j) : sumI g n 0 = sumI h n 0 := sumI_cong (fun j j0 j1 => H j j0 (by omega))

theorem cc_matchL {m : Nat} {tk co : Int → Int} {x : Int} {σ0 : Sg} (K0 : Kc σ0 V m tk co) : ∀ (n : Nat) (i : Nat) (a : Int) (G : Int → Int) (σ : Sg), (∀ j, j ≠ 57 → σ j = σ0 j) → i ≤ m → (∀ c, 0 ≤ c → c < V.2.2.2.2.2.1 → σ 57 c = 0 ∨ σ 57 c = 1) → (∀ c, 0 ≤ c → c < V.2.2.2.2.2.1 → (σ 57 c = 0 ↔ ¬ ∃ q : Int, 0 ≤ q ∧ q < i ∧ G q = c)) → a = cntM i G →
      Val i (el V x) (mbV V tk co) G → (∀ q : Int, 0 ≤ q → q < i → ∀ c, el V x c → mbV V tk co c q → (∃ p : Int, 0 ≤ p ∧ p < q ∧ G p = c) ∨ (G q ≠ -1 ∧ enV V (G q) ≤ enV V c)) → (m : Int) - i < (n : Int) → 0 < n →
    ∃ G' σ', fX10_greatestMatching_L25 n x a i σ = some (cntM m G', σ') ∧ (∀ j, j ≠ 57 → σ' j = σ0 j) ∧ Val m (el V x) (mbV V tk co) G' ∧ (∀ q : Int, 0 ≤ q → q < m → ∀ c, el V x c → mbV V tk co c q → (∃ p : Int, 0 ≤ p ∧ p < q ∧ G' p = c) ∨ (G' q ≠ -1 ∧ enV V (G' q) ≤ enV V c)) := by
  have hm0 := K0.hm
  have hn0 := K0.r.n
  intro n
  induction n with
  | zero => intro i a G σ _ _ _ _ _ _ _ h; omega
  | succ n ih =>
    intro i a G σ F hi h57 hG ha W gp hn _
    have K : Kc σ V m tk co := K0.congr F
    have hm := K.hm
    unfold fX10_greatestMatching_L25
    by_cases h : i < m
    · have ca : 0 ≤ cntM i G ∧ cntM i G ≤ i := sumI_rng (fun j => bi_rng) i 0
      have nx : ∀ b σ2, fX10_greatestMatching_L25P81 (fX10_greatestMatching_L25 n) x b i σ2 = fX10_greatestMatching_L25 n x b ((i + 1 : Nat) : Int) σ2 := fun b σ2 => by
        unfold fX10_greatestMatching_L25P81; rw [ck_e (by omega) (by omega)]; rfl
      obtain ⟨q, b1, b2⟩ := cc_firstE K h57 (x := x) (i := i) (by omega) (by omega) fu 0 (-1) 0 (by omega) (.inl ⟨rfl, fun c' k0 k1 => by omega⟩) (by rw [fu_i]; omega) fu_pos
      have fe : fX10_firstToEnd (tk i) (co i) x σ = some q := by unfold fX10_firstToEnd; rw [b1]; rfl
      rw [iT (by omega), iT (by omega), rd_e (by omega) (by omega), rd_e (by omega) (by omega), K.t.1, K.t.2.1, fe]; simp only [bnd_e]
      have snoc : ∀ G2 : Int → Int, (∀ j : Int, 0 ≤ j → j < i → G2 j = G j) → cntM (i + 1) G2 = cntM i G + bi (G2 i ≠ -1) := fun G2 hG2 => by
        unfold cntM; rw [sumI_snoc, show (0 : Int) + i = i by omega]
        congr 1
        exact sumI_ext (fun j j0 j1 => by rw [hG2 j j0 j1])
      have up : ∀ j : Int, 0 ≤ j → j < i → zupd G i q j = G j := fun j j0 j1 => zupd_F (by omega)
      have upi : zupd G i q i = q := zupd_T rfl
      rcases b2 with ⟨rfl, b3⟩ | ⟨ok, b3⟩
      · rw [iT (by decide), nx]
        refine ih (i + 1) a (zupd G i (-1)) σ F (by omega) h57 ?_ ?_ ⟨?_, ?_⟩ ?_ (by omega) (by omega)
        · intro c c0 c1
          rw [hG c c0 c1]
          constructor
          · rintro z ⟨p, p0, p1, p2⟩
            by_cases e : p = i
            · rw [e, upi] at p2; omega
            · exact z ⟨p, p0, by omega, by rw [← up p p0 (by omega)]; exact p2⟩
          · rintro z ⟨p, p0, p1, p2⟩; exact z ⟨p, p0, by omega, by rw [up p p0 p1]; exact p2⟩
        · rw [snoc _ up, upi, bi_F (fun z => z rfl)]; omega
        · intro j j0 j1 hj
          by_cases e : j = i
          · rw [e, upi] at hj; exact absurd rfl hj
          · rw [up j j0 (by omega)] at hj ⊢; exact W.e j j0 (by omega) hj
        · intro j j' j0 j1 k0 k1 hj he
          by_cases e : j = i
          · rw [e, upi] at hj; exact absurd rfl hj
          · rw [up j j0 (by omega)] at hj he
            by_cases e' : j' = i
            · rw [e', upi] at he; exact absurd he hj
            · rw [up j' k0 (by omega)] at he; exact W.i j j' j0 (by omega) k0 (by omega) hj he
        · intro p p0 p1 c hc hb
          by_cases e : p = i
          · left
            rw [e] at hb
            have hc0 := hc.1
            have : ¬ σ 57 c = 0 := fun z => b3 c hc0.1 hc0.2 ⟨hc, z, hb⟩
            have := Classical.not_not.mp (fun w => this ((hG c hc0.1 hc0.2).2 w))
            obtain ⟨r, r0, r1, r2⟩ := this
            exact ⟨r, r0, by omega, by rw [up r r0 r1]; exact r2⟩
          · rcases gp p p0 (by omega) c hc hb with ⟨r, r0, r1, r2⟩ | z
            · exact .inl ⟨r, r0, r1, by rw [up r r0 (by omega)]; exact r2⟩
            · right; rw [up p p0 (by omega)]; exact z
      · obtain ⟨okE, ok0, okM⟩ := ok
        have hq := okE.1
        have fresh := (hG q hq.1 hq.2).1 ok0
        rw [iF (by omega), iT (by omega), wrZ_e hq.1 (by omega) (by omega) (by omega), ck_e (by omega) (by omega), nx]
        refine ih (i + 1) (a + 1) (zupd G i q) (put σ 57 q 1) (fun j hj => by rw [put_ne hj, F j hj]) (by omega) ?_ ?_ ?_ ⟨?_, ?_⟩ ?_ (by omega) (by omega)
        · intro c c0 c1
          rw [put_at]
          split
          · omega
          · exact h57 c c0 c1
        · intro c c0 c1
          rw [put_at]
          by_cases e : c = q
          · rw [iT e]
            constructor
            · intro z; omega
            · intro z; exact absurd ⟨i, by omega, by omega, by rw [upi, e]⟩ z
          · rw [iF e, hG c c0 c1]
            constructor
            · rintro z ⟨p, p0, p1, p2⟩
              by_cases e' : p = i
              · rw [e', upi] at p2; exact e p2.symm
              · exact z ⟨p, p0, by omega, by rw [← up p p0 (by omega)]; exact p2⟩
            · rintro z ⟨p, p0, p1, p2⟩; exact z ⟨p, p0, by omega, by rw [up p p0 p1]; exact p2⟩
        · rw [snoc _ up, upi, bi_T (by omega)]; omega
        · intro j j0 j1 hj
          by_cases e : j = i
          · rw [e, upi]; exact ⟨okE, okM⟩
          · rw [up j j0 (by omega)] at hj ⊢; exact W.e j j0 (by omega) hj
        · intro j j' j0 j1 k0 k1 hj he
          by_cases e : j = i
          · by_cases e' : j' = i
            · omega
            · rw [e, upi, up j' k0 (by omega)] at he
              exact absurd ⟨j', k0, by omega, he.symm⟩ fresh
          · rw [up j j0 (by omega)] at hj he
            by_cases e' : j' = i
            · rw [e', upi] at he; exact absurd ⟨j, j0, by omega, he⟩ fresh
            · rw [up j' k0 (by omega)] at he; exact W.i j j' j0 (by omega) k0 (by omega) hj he
        · intro p p0 p1 c hc hb
          by_cases e : p = i
          · rw [e] at hb
            have hc0 := hc.1
            by_cases z : σ 57 c = 0
            · right; rw [e, upi]; exact ⟨by omega, b3 c hc0.1 hc0.2 ⟨hc, z, hb⟩⟩
            · left
              have := Classical.not_not.mp (fun w => z ((hG c hc0.1 hc0.2).2 w))
              obtain ⟨r, r0, r1, r2⟩ := this
              exact ⟨r, r0, by omega, by rw [up r r0 r1]; exact r2⟩
          · rcases gp p p0 (by omega) c hc hb with ⟨r, r0, r1, r2⟩ | z
            · exact .inl ⟨r, r0, r1, by rw [up r r0 (by omega)]; exact r2⟩
            · right; rw [up p p0 (by omega)]; exact z
    · have e : i = m := by omega
      subst e
      rw [iF (by omega)]
      exact ⟨G, σ, by rw [ha], F, W, gp⟩
theorem cc_matching {m : Nat} {tk co : Int → Int} {x : Int} (K : Kc σ V m tk co) : ∃ G σ', fX10_greatestMatching x σ = some (cntM m G, σ') ∧ (∀ j, j ≠ 57 → σ' j = σ j) ∧ Val m (el V x) (mbV V tk co) G ∧ (∀ q : Int, 0 ≤ q → q < m → ∀ c, el V x c → mbV V tk co c q → (∃ p : Int, 0 ≤ p ∧ p < q ∧ G p = c) ∨ (G q ≠ -1 ∧ enV V (G q) ≤ enV V c)) := by
  have hn := K.r.n
  have hm := K.hm
  obtain ⟨σ1, a1, a2, a3, -⟩ := fil_loop (L := fun n i s => fX10_greatestMatching_L2 n x i s) (i := 57) (m := 120) (v := 0) (fun n i s i0 i1 => by
    conv => lhs; unfold fX10_greatestMatching_L2
    rw [iT i1, wrZ_e i0 (by omega) (by omega) (by omega), ck_e (by omega) (by omega)]) (fun n i s i1 => by unfold fX10_greatestMatching_L2; rw [iF (by omega)]) fu 0 σ (by omega) (by rw [fu_i]; omega) fu_pos
  obtain ⟨G, σ2, b1, b2, b3, b4⟩ := cc_matchL (x := x) K fu 0 0 (fun _ => -1) σ1 a2 (by omega) (fun c c0 c1 => .inl (a3 c c0 (by omega))) (fun c c0 c1 => ⟨fun _ => fun ⟨q, q0, q1, _⟩ => by omega, fun _ => a3 c c0 (by omega)⟩) rfl ⟨fun j j0 j1 => by omega, fun j j' j0 j1 => by omega⟩ (fun q q0 q1 => by omega) (by rw [fu_i]; omega) fu_pos
  refine ⟨G, σ2, ?_, b2, b3, b4⟩
  unfold fX10_greatestMatching
  rw [show ((0 : Nat) : Int) = 0 from rfl] at b1
  rw [a1]; simp only [bnd_e]; rw [b1]; rfl
end

section
set_option linter.unusedVariables false
variable {σ τ : Sg} {V : Vw} {N : Int}

abbrev Two (N : Int) (σ τ : Sg) (V : Vw) (m : Nat) : Prop := (Rel N σ τ) ∧ (vw τ = V) ∧ (Kc σ V m (σ 55) (σ 56)) ∧ (Kn τ V m (τ 26) (τ 27))
theorem Two.r {N : Int} {σ τ : Sg} {V : Vw} {m : Nat} (h : Two N σ τ V m) : Rel N σ τ := h.1
theorem Two.v {N : Int} {σ τ : Sg} {V : Vw} {m : Nat} (h : Two N σ τ V m) : vw τ = V := h.2.1
theorem Two.c {N : Int} {σ τ : Sg} {V : Vw} {m : Nat} (h : Two N σ τ V m) : Kc σ V m (σ 55) (σ 56) := h.2.2.1
theorem Two.k {N : Int} {σ τ : Sg} {V : Vw} {m : Nat} (h : Two N σ τ V m) : Kn τ V m (τ 26) (τ 27) := h.2.2.2
theorem Two.mk {N : Int} {σ τ : Sg} {V : Vw} {m : Nat} (r : Rel N σ τ) (v : vw τ = V) (c : Kc σ V m (σ 55) (σ 56)) (k : Kn τ V m (τ 26) (τ 27)) : Two N σ τ V m := ⟨r, v, c, k⟩
theorem two_of (R : Rel N σ τ) : ∃ σ' τ', fX7_reckon σ = some σ' ∧ fX12_plays τ = some τ' ∧ Two N σ' τ' (vw τ) (τ 0 36).toNat ∧ σ' 54 6 = τ 0 36 ∧ τ' 0 36 = τ 0 36 := by
  obtain ⟨σ', τ', a1, a2, a3, a4, a5, a6, f1, f2, f3⟩ := both_play R
  have S := a3.seen
  have e36 : τ' 0 36 = τ 0 36 := f2 36 (by decide)
  have hn := S.n
  rw [e36] at hn
  have em : (((τ 0 36).toNat : Nat) : Int) = τ 0 36 := by omega
  have vr : RelN σ' (vw τ) := by have := a3.v.toRelN; rw [a4] at this; exact this
  refine ⟨σ', τ', a1, a2, ⟨a3, a4, ⟨vr, fun c c0 c1 => (a5 c c0 c1).2 |> fun z => ⟨z.1, fun s => z.2 (by rw [z.1]; exact s)⟩, by omega, rfl, rfl, ?_⟩, ⟨a4, ⟨σ', vr⟩, fun c c0 c1 => (a6 c c0 c1).2 |> fun z => ⟨z.1, fun s => z.2 (by rw [z.1]; exact s)⟩, by omega, rfl, rfl, ?_⟩⟩, hn.1, e36⟩
  · intro j j0 j1
    obtain ⟨π, ρ, p1, p2⟩ := S.p
    rw [e36] at p1
    obtain ⟨x1, x2, x3, x4⟩ := p1 j j0 (by omega)
    rw [x3]
    exact (S.r (π j) x1.1 (by rw [e36]; exact x1.2)).1
  · intro j j0 j1
    exact (S.r j j0 (by rw [e36]; omega)).1
theorem Two.move {m : Nat} {σ' τ' : Sg} (T : Two N σ τ V m) (h1 : ∀ j, j ≠ 57 → σ' j = σ j) (h2 : ∀ j, j ≠ 43 → j ≠ 44 → τ' j = τ j) : Two N σ' τ' V m := by
  have hv : vw τ' = V := (T.k.congr h2).v
  refine ⟨Rel_scr T.r (fun j _ _ j3 => h1 j j3) (fun j j0 j1 j2 => h2 j (by omega) (by omega)) (fun p _ _ => by rw [h2 0 (by decide) (by decide)]) ?_, hv, ?_, ?_⟩
  · rcases T.r.play with p | ⟨p1, p2⟩
    · exact .inl (by rw [h2 0 (by decide) (by decide)]; exact p)
    · refine .inr ⟨by rw [h2 0 (by decide) (by decide)]; exact p1, ?_⟩
      rw [hv, h2 40 (by decide) (by decide), h2 41 (by decide) (by decide), h2 42 (by decide) (by decide), ← T.v]; exact p2
  · have := T.c.congr h1
    rw [h1 55 (by decide), h1 56 (by decide)]; exact this
  · have := T.k.congr h2
    rw [h2 26 (by decide) (by decide), h2 27 (by decide) (by decide)]; exact this

theorem match_eq {m : Nat} {x : Int} (T : Two N σ τ V m) : ∃ G σ' τ', fX10_greatestMatching x σ = some (cntM m G, σ') ∧ fX12_matching x τ = some (cntM m G, τ') ∧ Two N σ' τ' V m ∧ Val m (el V x) (mbV V (σ 55) (σ 56)) G ∧ (∃ M, Cer m (el V x) (mbV V (σ 55) (σ 56)) G M) ∧ 0 ≤ cntM m G ∧ cntM m G ≤ m := by
  obtain ⟨G, σ', a1, a2, a3, a4⟩ := cc_matching (x := x) T.c
  obtain ⟨τ', b1, b2, b3, M, b4⟩ := rr_matching (x := x) T.k
  have S := T.r.seen
  have hm := T.k.hm
  obtain ⟨π, ρ, p1, p2⟩ := S.p
  have hco : ∀ i : Int, 0 ≤ i → i < m → ∀ c, (mbV V (σ 55) (σ 56) c i ↔ V.2.1.1 (hasV V c) = σ 56 i ∧ V.2.2.1.2.2.1 c - V.2.1.2.1 (hasV V c) ≤ σ 55 i ∧ σ 55 i ≤ enV V c) := by
    intro i i0 i1 c
    unfold mbV enV abI
    constructor
    · rintro ⟨h1, h2⟩
      refine ⟨h1.symm, ?_⟩
      split at h2 <;> omega
    · rintro ⟨h1, h2, h3⟩
      refine ⟨h1.symm, ?_⟩
      split <;> omega
  have C' := greedy_cer (m := m) (el := el V x) (mb := mbV V (σ 55) (σ 56)) (G := G) (tk := σ 55) (co := σ 56) (st := fun c => V.2.2.1.2.2.1 c - V.2.1.2.1 (hasV V c)) (en := enV V) (cl := fun c => V.2.1.1 (hasV V c)) (fun c i i0 i1 => hco i i0 i1 c) (fun i j i0 ij j1 => S.s i j i0 ij (by omega)) a3 a4
  have eq := two_max (π := π) (ρ := ρ) (fun i i0 i1 => by obtain ⟨z1, z2, -⟩ := p1 i i0 (by omega); exact ⟨by omega, z2⟩) (fun i i0 i1 => by obtain ⟨z1, z2⟩ := p2 i i0 (by omega); exact ⟨by omega, z2⟩) (fun c i i0 i1 => by
    obtain ⟨z1, z2, z3, z4⟩ := p1 i i0 (by omega)
    unfold mbV; rw [z3, z4]) b3 b4 a3 C'
  have rg := sumI_rng (g := fun j => bi (G j ≠ -1)) (fun j => bi_rng) m 0
  exact ⟨G, σ', τ', a1, by rw [b1, eq], T.move a2 b2, a3, ⟨_, C'⟩, rg.1, rg.2⟩
theorem cc_expected {m : Nat} {tk co : Int → Int} (K : Kc σ V m tk co) : fX10_expected σ = some (sumI (fun c => bi (isSh (fateV V c))) V.2.2.2.2.2.1.toNat 0) := by
  have hn := K.r.n
  have l1 := cnt (L := fun n a i => fX10_expected_L4 n a i σ) (m := V.2.2.2.2.2.1) (g := fun c => bi (isSh (fateV V c))) (fun j => bi_rng)
    (fun n a i i0 i1 a0 a1 => by
      conv => lhs; unfold fX10_expected_L4
      rw [iT (by omega), cc_isExp K i0 i1]; simp only [bnd_e]
      unfold fX10_expected_L4P29
      by_cases e : isSh (fateV V i)
      · rw [bi_T e, iF (by decide), ck_e (by omega) (by omega), ck_e (by omega) (by omega)]
      · rw [bi_F e, iT rfl, ck_e (by omega) (by omega), show a + 0 = a by omega])
    (fun n a i i0 => by unfold fX10_expected_L4; rw [iF (by omega)]) fu 0 0 (by omega) (by omega) (by omega) (by rw [fu_i]; omega) fu_pos
  unfold fX10_expected
  rw [l1]; simp only [bnd_e]
  rw [show (V.2.2.2.2.2.1 - 0).toNat = V.2.2.2.2.2.1.toNat by omega]; congr 1; omega
theorem rr_expected {m : Nat} {t' c' : Int → Int} (K : Kn τ V m t' c') : fX12_duds_L8 fu 0 0 τ = some (sumI (fun c => bi (isSh (fateV V c))) V.2.2.2.2.2.1.toNat 0) := by
  obtain ⟨σ, R⟩ := K.r
  have hn := R.n
  have e32 : τ 0 32 = V.2.2.2.2.2.1 := by rw [← K.v]
  have l1 := cnt (L := fun n a i => fX12_duds_L8 n a i τ) (m := V.2.2.2.2.2.1) (g := fun c => bi (isSh (fateV V c))) (fun j => bi_rng)
    (fun n a i i0 i1 a0 a1 => by
      conv => lhs; unfold fX12_duds_L8
      rw [iT (by omega), rr_isShown K i0 i1]; simp only [bnd_e]
      unfold fX12_duds_L8P30
      by_cases e : isSh (fateV V i)
      · rw [bi_T e, iF (by decide), ck_e (by omega) (by omega), ck_e (by omega) (by omega)]
      · rw [bi_F e, iT rfl, ck_e (by omega) (by omega), ck_e (by omega) (by omega)])
    (fun n a i i0 => by unfold fX12_duds_L8; rw [iF (by omega)]) fu 0 0 (by omega) (by omega) (by omega) (by rw [fu_i]; omega) fu_pos
  rw [l1, show (V.2.2.2.2.2.1 - 0).toNat = V.2.2.2.2.2.1.toNat by omega]; congr 1; omega
theorem m_duds : Mt fX11_duds fX12_duds := by
  intro N σ τ R hN
  obtain ⟨σ1, τ1, a1, a2, T, -, -⟩ := two_of R
  obtain ⟨G, σ2, τ2, b1, b2, T2, -, -, b3, b4⟩ := match_eq (x := -1) T
  have hm := T.k.hm
  have hn := T.c.r.n
  have rg := sumI_rng (g := fun c => bi (isSh (fateV (vw τ) c))) (fun j => bi_rng) (vw τ).2.2.2.2.2.1.toNat 0
  unfold fX11_duds fX12_duds
  rw [a1, a2]; simp only [bnd_e]
  rw [cc_expected T.c, rr_expected T.k]; simp only [bnd_e]
  rw [b1, b2]; simp only [bnd_e]
  generalize sumI (fun c => bi (isSh (fateV (vw τ) c))) (vw τ).2.2.2.2.2.1.toNat 0 = S at rg ⊢
  generalize cntM (τ 0 36).toNat G = C at b3 b4 ⊢
  generalize (τ 0 36).toNat = m at b4 hm
  have hn2 := hn.2
  generalize (vw τ).2.2.2.2.2.1 = n at rg hn2
  rw [ck_e (by omega) (by omega), ck_e (by omega) (by omega)]
  exact ⟨_, _, _, rfl, rfl, T2.r.up⟩
theorem m_strange : Mt fX11_strange fX12_strange := by
  intro N σ τ R hN
  obtain ⟨σ1, τ1, a1, a2, T, e1, e2⟩ := two_of R
  obtain ⟨G, σ2, τ2, b1, b2, T2, -, -, b3, b4⟩ := match_eq (x := -1) T
  have hm := T.k.hm
  unfold fX11_strange fX12_strange
  rw [a1, a2]; simp only [bnd_e]
  rw [b1, b2]; simp only [bnd_e]
  rw [e1, e2, ck_e (by omega) (by omega), ck_e (by omega) (by omega)]
  exact ⟨_, _, _, rfl, rfl, T2.r.up⟩
theorem m_dud (c : Int) : Mt (fX11_dud c) (fX12_dud c) := by
  intro N σ τ R hN
  have v := R.v
  have hn := v.n
  dsimp only [vw] at hn
  unfold fX11_dud fX12_dud
  rw [cc_isCue v.toRelN, rr_isCue (by omega) (by omega)]; simp only [bnd_e]
  by_cases h : 0 ≤ c ∧ c < τ 0 32
  · rw [bi_T h]; (try simp only [bnd_e, one0, two0, if_false, ↓reduceIte])
    obtain ⟨σ1, τ1, a1, a2, T, e1, e2⟩ := two_of R
    have hm := T.k.hm
    have S := T.r.seen
    obtain ⟨π, ρ, p1, p2⟩ := S.p
    rw [a1, a2]; simp only [bnd_e]
    rw [cc_isExp T.c h.1 h.2, rr_isShown T.k h.1 h.2]; simp only [bnd_e]
    by_cases sh : isSh (fateV (vw τ) c)
    · rw [bi_T sh]; (try simp only [bnd_e, one0, two0, if_false, ↓reduceIte])
      generalize hM : (τ 0 36).toNat = m at T hm
      have k1 := srch (L := fun n i => fX10_mayBeSeen_L2 n c i σ1) (lo := 0) (m := m) (P := fun i => mbV (vw τ) (σ1 55) (σ1 56) c i) (a := some (.inl ())) (b := some (.inr ()))
        (fun n i i0 i1 hp => by
          have hm1 := T.c.hm
          unfold fX10_mayBeSeen_L2
          rw [iT (by omega), iT (by omega), rd_e i0 (by omega), rd_e i0 (by omega), cc_mayBe T.c h.1 h.2 i0 i1, bi_T ⟨sh, hp⟩]; rfl)
        (fun n i i0 i1 hp => by
          have hm1 := T.c.hm
          conv => lhs; unfold fX10_mayBeSeen_L2
          rw [iT (by omega), iT (by omega), rd_e i0 (by omega), rd_e i0 (by omega), cc_mayBe T.c h.1 h.2 i0 i1, bi_F (fun z => hp z.2)]; simp only [bnd_e, if_true]
          rw [ck_e (by omega) (by omega)])
        (fun n i i0 i1 => by
          have hm1 := T.c.hm
          unfold fX10_mayBeSeen_L2; rw [iF (by omega)]) fu 0 (by omega) (by rw [fu_i]; omega) fu_pos
      have k2 : ∀ (n : Nat) (a i : Int), 0 ≤ i → (m : Int) - i < (n : Int) → 0 < n → ∃ r, fX12_dud_L29 n c a i τ1 = some r ∧ (r = 0 ↔ a = 0 ∧ ¬ ∃ j : Int, i ≤ j ∧ j < m ∧ mbV (vw τ) (τ1 26) (τ1 27) c j) := by
        intro n
        induction n with
        | zero => intro a i _ h; omega
        | succ n ih =>
          intro a i i0 i1 _
          unfold fX12_dud_L29
          by_cases hi : i < m
          · rw [iT (by omega)]
            unfold fX12_dud_L29P50 fX12_dud_L29P55
            by_cases ca : a = 0
            · rw [iT ca, rr_mayBe T.k h.1 h.2 sh i0 hi]; simp only [bnd_e]
              by_cases my : mbV (vw τ) (τ1 26) (τ1 27) c i
              · rw [bi_T my, iF (by decide), ck_e (by omega) (by omega)]
                obtain ⟨r, r1, r2⟩ := ih 1 (i + 1) (by omega) (by omega) (by omega)
                refine ⟨r, r1, ?_⟩
                rw [r2]
                constructor
                · rintro ⟨z, _⟩; omega
                · rintro ⟨_, z⟩; exact absurd ⟨i, by omega, hi, my⟩ z
              · rw [bi_F my, iT rfl, ck_e (by omega) (by omega)]
                obtain ⟨r, r1, r2⟩ := ih 0 (i + 1) (by omega) (by omega) (by omega)
                refine ⟨r, r1, ?_⟩
                rw [r2]
                constructor
                · rintro ⟨_, z⟩
                  refine ⟨ca, fun ⟨j, j0, j1, j2⟩ => ?_⟩
                  by_cases e : j = i
                  · exact my (e ▸ j2)
                  · exact z ⟨j, by omega, j1, j2⟩
                · rintro ⟨_, z⟩
                  exact ⟨rfl, fun ⟨j, j0, j1, j2⟩ => z ⟨j, by omega, j1, j2⟩⟩
            · rw [iF ca, ck_e (by omega) (by omega)]
              obtain ⟨r, r1, r2⟩ := ih 1 (i + 1) (by omega) (by omega) (by omega)
              refine ⟨r, r1, ?_⟩
              rw [r2]
              constructor
              · rintro ⟨z, _⟩; omega
              · rintro ⟨z, _⟩; exact absurd z ca
          · rw [iF (by omega)]
            refine ⟨a, rfl, ?_⟩
            constructor
            · intro z; exact ⟨z, fun ⟨j, j0, j1, _⟩ => by omega⟩
            · exact fun z => z.1
      obtain ⟨r, r1, r2⟩ := k2 fu 0 0 (by omega) (by rw [fu_i]; omega) fu_pos
      have same : (∃ i : Int, 0 ≤ i ∧ i < m ∧ mbV (vw τ) (σ1 55) (σ1 56) c i) ↔ (∃ j : Int, 0 ≤ j ∧ j < m ∧ mbV (vw τ) (τ1 26) (τ1 27) c j) := by
        constructor
        · rintro ⟨i, i0, i1, hb⟩
          obtain ⟨z1, z2, z3, z4⟩ := p1 i i0 (by omega)
          refine ⟨π i, z1.1, by omega, ?_⟩
          unfold mbV at hb ⊢; rw [z3, z4] at hb; exact hb
        · rintro ⟨j, j0, j1, hb⟩
          obtain ⟨z1, z2⟩ := p2 j j0 (by omega)
          obtain ⟨y1, y2, y3, y4⟩ := p1 (ρ j) z1.1 (by omega)
          refine ⟨ρ j, z1.1, by omega, ?_⟩
          unfold mbV at hb ⊢; rw [y3, y4, z2]; exact hb
      rw [r1]; simp only [bnd_e]
      unfold fX10_mayBeSeen
      by_cases any : ∃ i : Int, 0 ≤ i ∧ i < m ∧ mbV (vw τ) (σ1 55) (σ1 56) c i
      · rw [k1.1 any]; simp only [bnd_e, Sum.elim_inl]; (try simp only [bnd_e, one0, two0, if_false, ↓reduceIte])
        rw [iF (show ¬ r = 0 from fun z => (r2.1 z).2 (same.1 any))]
        obtain ⟨G, σ2, τ2, b1, b2, T2, W2, -, -, -⟩ := match_eq (x := c) T
        obtain ⟨H, σ3, τ3, d1, d2, T3, -, ⟨M, CM⟩, -, -⟩ := match_eq (x := -1) T2
        have f55 : σ2 55 = σ1 55 ∧ σ2 56 = σ1 56 := by
          obtain ⟨G', s', q1, q2, -⟩ := cc_matching (x := c) T.c
          rw [q1] at b1
          have : s' = σ2 := congrArg Prod.snd (Option.some.inj b1)
          rw [← this]; exact ⟨q2 55 (by decide), q2 56 (by decide)⟩
        rw [b1, b2]; simp only [bnd_e]
        rw [d1, d2]; simp only [bnd_e]
        have le : cntM m G ≤ cntM m H := by
          rw [f55.1, f55.2] at CM
          refine cer_max CM ⟨fun j j0 j1 hj => ?_, W2.i⟩
          obtain ⟨z1, z2⟩ := W2.e j j0 j1 hj
          exact ⟨⟨z1.1, z1.2.1, by have := z1.1; omega⟩, z2⟩
        by_cases lt : cntM m G < cntM m H
        · rw [iT lt, iF (by omega)]; exact ⟨_, _, _, rfl, rfl, T3.r.up⟩
        · rw [iF lt, iT (by omega)]; exact ⟨_, _, _, rfl, rfl, T3.r.up⟩
      · rw [k1.2 any]; simp only [bnd_e, Sum.elim_inr, if_true]
        rw [iT (show r = 0 from r2.2 ⟨rfl, fun z => any (same.2 z)⟩)]
        exact ⟨_, _, _, rfl, rfl, T.r.up⟩
    · rw [bi_F sh]; exact ⟨_, _, _, rfl, rfl, T.r.up⟩
  · rw [bi_F h]; exact no_ch R
end

section
set_option linter.unusedVariables false

theorem Rel_start : Rel 0 (fun i k => if i = 0 ∧ k = 9 then 2 else if i = 48 ∧ k = 9 then -1 else 0) ((fX12_begin (fun _ _ => 0)).getD (0, fun _ _ => 0)).2 := by
  generalize hτ : (fun _ _ => 0 : Sg) = τ
  have hz : ∀ i k, τ i k = 0 := fun i k => by rw [← hτ]
  obtain ⟨τ1, a1, a2, a3, a4⟩ := fil_loop (L := fun n x s => fX12_begin_L7 n x s) (i := 1) (m := 1024) (v := 0) (fun n x s h0 h1 => bL7 h0 h1) (fun n x s h => by unfold fX12_begin_L7; (try simp (disch := omega) only [↓ck_e, ↓rd_e, ↓wr_e, ↓wrB_e, ↓wrZ_e, ↓dv_e, ↓md_e, ↓fdv_e, ↓cpy_e, ↓filB_e, ↓filI_e, ↓filL_e, ↓st1_e, ↓bnd_e, ↓iT, ↓iF, ↓reduceIte, put_ne, put_T, put_F, isIn_T, isIn_F])) fu 0 (put τ 0 54 0) (by omega) (by rw [fu_i]; omega) fu_pos
  obtain ⟨τ2, b1, b2, b3, b4⟩ := fil_loop (L := fun n x s => fX12_begin_L29 n x s) (i := 2) (m := 12) (v := 0) (fun n x s h0 h1 => bL29 h0 h1) (fun n x s h => by unfold fX12_begin_L29; (try simp (disch := omega) only [↓ck_e, ↓rd_e, ↓wr_e, ↓wrB_e, ↓wrZ_e, ↓dv_e, ↓md_e, ↓fdv_e, ↓cpy_e, ↓filB_e, ↓filI_e, ↓filL_e, ↓st1_e, ↓bnd_e, ↓iT, ↓iF, ↓reduceIte, put_ne, put_T, put_F, isIn_T, isIn_F])) fu 0 τ1 (by omega) (by rw [fu_i]; omega) fu_pos
  obtain ⟨τ3, c1, c2, c3, c4⟩ := fil_loop (L := fun n x s => fX12_begin_L50 n x s) (i := 10) (m := 6) (v := 0) (fun n x s h0 h1 => bL50 h0 h1) (fun n x s h => by unfold fX12_begin_L50; (try simp (disch := omega) only [↓ck_e, ↓rd_e, ↓wr_e, ↓wrB_e, ↓wrZ_e, ↓dv_e, ↓md_e, ↓fdv_e, ↓cpy_e, ↓filB_e, ↓filI_e, ↓filL_e, ↓st1_e, ↓bnd_e, ↓iT, ↓iF, ↓reduceIte, put_ne, put_T, put_F, isIn_T, isIn_F])) fu 0 τ2 (by omega) (by rw [fu_i]; omega) fu_pos
  obtain ⟨τ4, d1, d2, d3, d4⟩ := fil2_loop (L := fun n x s => fX12_begin_L71 n x s) (i := 11) (i' := 12) (by decide) (m := 20) (v := 0) (fun n x s h0 h1 => bL71 h0 h1) (fun n x s h => by unfold fX12_begin_L71; (try simp (disch := omega) only [↓ck_e, ↓rd_e, ↓wr_e, ↓wrB_e, ↓wrZ_e, ↓dv_e, ↓md_e, ↓fdv_e, ↓cpy_e, ↓filB_e, ↓filI_e, ↓filL_e, ↓st1_e, ↓bnd_e, ↓iT, ↓iF, ↓reduceIte, put_ne, put_T, put_F, isIn_T, isIn_F])) fu 0 τ3 (by omega) (by rw [fu_i]; omega) fu_pos
  have rf : fX12_begin τ = some (0, put (put (put (put (put (put (put τ4 0 32 0) 0 33 0) 0 34 0) 0 35 (-1)) 0 36 0) 0 37 0) 0 31 2) := by
    unfold fX12_begin
    rw [st1_e, a1]; simp only [bnd_e]; rw [b1]; simp only [bnd_e]; rw [c1]; simp only [bnd_e]; rw [d1]; simp only [bnd_e]
    (try simp (disch := omega) only [↓ck_e, ↓rd_e, ↓wr_e, ↓wrB_e, ↓wrZ_e, ↓dv_e, ↓md_e, ↓fdv_e, ↓cpy_e, ↓filB_e, ↓filI_e, ↓filL_e, ↓st1_e, ↓bnd_e, ↓iT, ↓iF, ↓reduceIte, put_ne, put_T, put_F, isIn_T, isIn_F])
  rw [rf]
  have far : ∀ j, j ≠ 0 → j ≠ 1 → j ≠ 2 → j ≠ 10 → j ≠ 11 → j ≠ 12 → ∀ k, τ4 j k = 0 := fun j j0 j1 j2 j10 j11 j12 k => by
    rw [d2 j j11 j12, c2 j j10, b2 j j2, a2 j j1, put_ne j0, hz]
  have t54 : τ4 0 54 = 0 := by
    rw [d2 0 (by decide) (by decide), c2 0 (by decide), b2 0 (by decide), a2 0 (by decide), put_T rfl]
  have g1 : ∀ k : Int, 0 ≤ k → k < 1024 → τ4 1 k = 0 := fun k h0 h1 => by
    rw [d2 1 (by decide) (by decide), c2 1 (by decide), b2 1 (by decide)]; exact a3 k h0 h1
  have g2 : ∀ k : Int, 0 ≤ k → k < 12 → τ4 2 k = 0 := fun k h0 h1 => by
    rw [d2 2 (by decide) (by decide), c2 2 (by decide)]; exact b3 k h0 h1
  have g10 : ∀ k : Int, 0 ≤ k → k < 6 → τ4 10 k = 0 := fun k h0 h1 => by
    rw [d2 10 (by decide) (by decide)]; exact c3 k h0 h1
  show Rel 0 _ (put (put (put (put (put (put (put τ4 0 32 0) 0 33 0) 0 34 0) 0 35 (-1)) 0 36 0) 0 37 0) 0 31 2)
  generalize hS : (fun (i : Nat) (k : Int) => if i = 0 ∧ k = 9 then (2 : Int) else if i = 48 ∧ k = 9 then -1 else 0) = σ'
  have cl : ∀ j : Nat, j ≠ 0 → j ≠ 48 → ∀ k, σ' j k = 0 := fun j h0 h48 k => by
    rw [← hS]
    show (if _ then _ else _) = _
    rw [if_neg (fun h => h0 h.1), if_neg (fun h => h48 h.1)]
  have s48 : σ' 48 9 = -1 := by rw [← hS]; rfl
  have s09 : σ' 0 9 = 2 := by rw [← hS]; rfl
  have s010 : σ' 0 10 = 0 := by rw [← hS]; rfl
  generalize hT : (put (put (put (put (put (put (put τ4 0 32 0) 0 33 0) 0 34 0) 0 35 (-1)) 0 36 0) 0 37 0) 0 31 2) = τ'
  have q : ∀ j, j ≠ 0 → τ' j = τ4 j := fun j hj => by rw [← hT, put_ne hj, put_ne hj, put_ne hj, put_ne hj, put_ne hj, put_ne hj, put_ne hj]
  have qf : ∀ j, j ≠ 0 → j ≠ 1 → j ≠ 2 → j ≠ 10 → j ≠ 11 → j ≠ 12 → ∀ k, τ' j k = 0 := fun j j0 j1 j2 j10 j11 j12 k => by rw [q j j0, far j j0 j1 j2 j10 j11 j12]
  have q32 : τ' 0 32 = 0 := by rw [← hT]; simp (disch := decide) only [put_T, put_F]
  have q33 : τ' 0 33 = 0 := by rw [← hT]; simp (disch := decide) only [put_T, put_F]
  have q34 : τ' 0 34 = 0 := by rw [← hT]; simp (disch := decide) only [put_T, put_F]
  have q35 : τ' 0 35 = -1 := by rw [← hT]; simp (disch := decide) only [put_T, put_F]
  have q36 : τ' 0 36 = 0 := by rw [← hT]; simp (disch := decide) only [put_T, put_F]
  have q37 : τ' 0 37 = 0 := by rw [← hT]; simp (disch := decide) only [put_T, put_F]
  have q31 : τ' 0 31 = 2 := by rw [← hT]; simp (disch := decide) only [put_T, put_F]
  have q54 : τ' 0 54 = 0 := by rw [← hT]; simp (disch := decide) only [put_F, t54]
  refine (Rel.mk (v := ?_) (gap := by rw [s09, q31]; omega) (ref := by rw [s010, q37]; omega) (seen := by rw [cl 54 (by decide) (by decide), q36]; exact RelS_0) (tape := ?_) (play := .inl q54))
  · exact (RelV.all (g := fun k h0 h1 => by dsimp only [vw]; rw [cl 2 (by decide) (by decide), q 1 (by decide), g1 k h0 h1]; omega) (k := fun k h0 h1 => by
        dsimp only [vw]
        rw [cl 7 (by decide) (by decide), q 2 (by decide), g2 k h0 h1, cl 8 (by decide) (by decide), cl 9 (by decide) (by decide), cl 10 (by decide) (by decide), cl 11 (by decide) (by decide), cl 12 (by decide) (by decide),
          qf 3 (by decide) (by decide) (by decide) (by decide) (by decide) (by decide), qf 4 (by decide) (by decide) (by decide) (by decide) (by decide) (by decide), qf 5 (by decide) (by decide) (by decide) (by decide) (by decide) (by decide), qf 6 (by decide) (by decide) (by decide) (by decide) (by decide) (by decide), qf 7 (by decide) (by decide) (by decide) (by decide) (by decide) (by decide)]
        refine ⟨⟨rfl, by omega⟩, by omega, fun x => by omega⟩) (b := fun k h0 h1 => by dsimp only [vw]; rw [cl 5 (by decide) (by decide), q 10 (by decide), g10 k h0 h1]; exact ⟨rfl, by omega, fun x => by omega⟩) (d := fun k h0 h1 => by dsimp only [vw]; rw [cl 14 (by decide) (by decide), cl 15 (by decide) (by decide), q 11 (by decide), q 12 (by decide), (d3 k h0 h1).1, (d3 k h0 h1).2]; omega) (n := by dsimp only [vw]; rw [cl 19 (by decide) (by decide), q32]; omega) (c := fun k h0 h1 => by dsimp only [vw] at h1; rw [q32] at h1; omega) (m := by
        refine ⟨by dsimp only [vw]; rw [cl 40 (by decide) (by decide), q33]; omega, fun k h0 h1 => ?_⟩
        dsimp only [vw] at h1; rw [q33] at h1; omega) (r := by
        refine ⟨by dsimp only [vw]; rw [cl 44 (by decide) (by decide), q34]; omega, fun k h0 h1 => ?_⟩
        dsimp only [vw] at h1; rw [q34] at h1; omega) (h := by dsimp only [vw]; rw [s48, q35]; omega) (f := fun k w t _ _ => by
        have t2 := t.2
        dsimp only [vw] at t2
        rw [q 2 (by decide), g2 k t.1.1 t.1.2] at t2; omega))
  · intro d h1 h2
    have := tpO_ge (d := d)
    have H : ∀ i, 59 ≤ i → ∀ k, σ' i k = 0 := fun i hi k => cl i (by omega) (by omega) k
    have q28 := qf 28 (by decide) (by decide) (by decide) (by decide) (by decide) (by decide)
    have q29 := qf 29 (by decide) (by decide) (by decide) (by decide) (by decide) (by decide)
    have q31' := qf 31 (by decide) (by decide) (by decide) (by decide) (by decide) (by decide)
    exact (RelT.mk (so := by rw [H _ (by omega), q28]; omega) (row := fun i _ _ => by rw [H _ (by omega), q31']) (le := fun h _ => by rw [q28] at h; omega) (by' := fun h => by rw [q28] at h; omega) (n := fun h => by rw [q28] at h; omega) (c := fun h => by rw [q28] at h; omega))
end

section
set_option linter.unusedVariables false
theorem rng_start : ∀ (i : Nat) (k : Int), (fun τ : Sg => τ i k = 0 ∨ τ i k = -1 ∨ τ i k = 2) ((fX12_begin (fun _ _ => 0)).getD (0, fun _ _ => 0)).2 := by
  generalize hτ : (fun _ _ => 0 : Sg) = τ
  have hz : ∀ i k, τ i k = 0 := fun i k => by rw [← hτ]
  obtain ⟨τ1, a1, a2, a3, a4⟩ := fil_loop (L := fun n x s => fX12_begin_L7 n x s) (i := 1) (m := 1024) (v := 0) (fun n x s h0 h1 => bL7 h0 h1) (fun n x s h => by unfold fX12_begin_L7; (try simp (disch := omega) only [↓ck_e, ↓rd_e, ↓wr_e, ↓wrB_e, ↓wrZ_e, ↓dv_e, ↓md_e, ↓fdv_e, ↓cpy_e, ↓filB_e, ↓filI_e, ↓filL_e, ↓st1_e, ↓bnd_e, ↓iT, ↓iF, ↓reduceIte, put_ne, put_T, put_F, isIn_T, isIn_F])) fu 0 (put τ 0 54 0) (by omega) (by rw [fu_i]; omega) fu_pos
  obtain ⟨τ2, b1, b2, b3, b4⟩ := fil_loop (L := fun n x s => fX12_begin_L29 n x s) (i := 2) (m := 12) (v := 0) (fun n x s h0 h1 => bL29 h0 h1) (fun n x s h => by unfold fX12_begin_L29; (try simp (disch := omega) only [↓ck_e, ↓rd_e, ↓wr_e, ↓wrB_e, ↓wrZ_e, ↓dv_e, ↓md_e, ↓fdv_e, ↓cpy_e, ↓filB_e, ↓filI_e, ↓filL_e, ↓st1_e, ↓bnd_e, ↓iT, ↓iF, ↓reduceIte, put_ne, put_T, put_F, isIn_T, isIn_F])) fu 0 τ1 (by omega) (by rw [fu_i]; omega) fu_pos
  obtain ⟨τ3, c1, c2, c3, c4⟩ := fil_loop (L := fun n x s => fX12_begin_L50 n x s) (i := 10) (m := 6) (v := 0) (fun n x s h0 h1 => bL50 h0 h1) (fun n x s h => by unfold fX12_begin_L50; (try simp (disch := omega) only [↓ck_e, ↓rd_e, ↓wr_e, ↓wrB_e, ↓wrZ_e, ↓dv_e, ↓md_e, ↓fdv_e, ↓cpy_e, ↓filB_e, ↓filI_e, ↓filL_e, ↓st1_e, ↓bnd_e, ↓iT, ↓iF, ↓reduceIte, put_ne, put_T, put_F, isIn_T, isIn_F])) fu 0 τ2 (by omega) (by rw [fu_i]; omega) fu_pos
  obtain ⟨τ4, d1, d2, d3, d4⟩ := fil2_loop (L := fun n x s => fX12_begin_L71 n x s) (i := 11) (i' := 12) (by decide) (m := 20) (v := 0) (fun n x s h0 h1 => bL71 h0 h1) (fun n x s h => by unfold fX12_begin_L71; (try simp (disch := omega) only [↓ck_e, ↓rd_e, ↓wr_e, ↓wrB_e, ↓wrZ_e, ↓dv_e, ↓md_e, ↓fdv_e, ↓cpy_e, ↓filB_e, ↓filI_e, ↓filL_e, ↓st1_e, ↓bnd_e, ↓iT, ↓iF, ↓reduceIte, put_ne, put_T, put_F, isIn_T, isIn_F])) fu 0 τ3 (by omega) (by rw [fu_i]; omega) fu_pos
  have rf : fX12_begin τ = some (0, put (put (put (put (put (put (put τ4 0 32 0) 0 33 0) 0 34 0) 0 35 (-1)) 0 36 0) 0 37 0) 0 31 2) := by
    unfold fX12_begin
    rw [st1_e, a1]; simp only [bnd_e]; rw [b1]; simp only [bnd_e]; rw [c1]; simp only [bnd_e]; rw [d1]; simp only [bnd_e]
    (try simp (disch := omega) only [↓ck_e, ↓rd_e, ↓wr_e, ↓wrB_e, ↓wrZ_e, ↓dv_e, ↓md_e, ↓fdv_e, ↓cpy_e, ↓filB_e, ↓filI_e, ↓filL_e, ↓st1_e, ↓bnd_e, ↓iT, ↓iF, ↓reduceIte, put_ne, put_T, put_F, isIn_T, isIn_F])
  rw [rf]
  have far : ∀ j, j ≠ 0 → j ≠ 1 → j ≠ 2 → j ≠ 10 → j ≠ 11 → j ≠ 12 → ∀ k, τ4 j k = 0 := fun j j0 j1 j2 j10 j11 j12 k => by
    rw [d2 j j11 j12, c2 j j10, b2 j j2, a2 j j1, put_ne j0, hz]
  have t54 : τ4 0 54 = 0 := by
    rw [d2 0 (by decide) (by decide), c2 0 (by decide), b2 0 (by decide), a2 0 (by decide), put_T rfl]
  have g1 : ∀ k : Int, 0 ≤ k → k < 1024 → τ4 1 k = 0 := fun k h0 h1 => by
    rw [d2 1 (by decide) (by decide), c2 1 (by decide), b2 1 (by decide)]; exact a3 k h0 h1
  have g2 : ∀ k : Int, 0 ≤ k → k < 12 → τ4 2 k = 0 := fun k h0 h1 => by
    rw [d2 2 (by decide) (by decide), c2 2 (by decide)]; exact b3 k h0 h1
  have g10 : ∀ k : Int, 0 ≤ k → k < 6 → τ4 10 k = 0 := fun k h0 h1 => by
    rw [d2 10 (by decide) (by decide)]; exact c3 k h0 h1
  have z0 : ∀ p, τ4 0 p = 0 := fun p => by
    rw [d2 0 (by decide) (by decide), c2 0 (by decide), b2 0 (by decide), a2 0 (by decide)]
    by_cases h : p = 54
    · rw [put_T h]
    · rw [put_F h, hz]
  have z1 : ∀ p, τ4 1 p = 0 := fun p => by
    by_cases h : 0 ≤ p ∧ p < 1024
    · exact g1 p h.1 h.2
    · rw [d2 1 (by decide) (by decide), c2 1 (by decide), b2 1 (by decide), a4 p h, put_ne (by decide), hz]
  have z2 : ∀ p, τ4 2 p = 0 := fun p => by
    by_cases h : 0 ≤ p ∧ p < 12
    · exact g2 p h.1 h.2
    · rw [d2 2 (by decide) (by decide), c2 2 (by decide), b4 p h, a2 2 (by decide), put_ne (by decide), hz]
  have z10 : ∀ p, τ4 10 p = 0 := fun p => by
    by_cases h : 0 ≤ p ∧ p < 6
    · exact g10 p h.1 h.2
    · rw [d2 10 (by decide) (by decide), c4 p h, b2 10 (by decide), a2 10 (by decide), put_ne (by decide), hz]
  have z11 : ∀ p, τ4 11 p = 0 ∧ τ4 12 p = 0 := fun p => by
    by_cases h : 0 ≤ p ∧ p < 20
    · exact d3 p h.1 h.2
    · rw [(d4 p h).1, (d4 p h).2, c2 11 (by decide), b2 11 (by decide), a2 11 (by decide), put_ne (by decide), hz, c2 12 (by decide), b2 12 (by decide), a2 12 (by decide), put_ne (by decide), hz]; exact ⟨rfl, rfl⟩
  have all : ∀ j p, τ4 j p = 0 := fun j p => by
    by_cases h0 : j = 0
    · rw [h0]; exact z0 p
    by_cases h1 : j = 1
    · rw [h1]; exact z1 p
    by_cases h2 : j = 2
    · rw [h2]; exact z2 p
    by_cases h10 : j = 10
    · rw [h10]; exact z10 p
    by_cases h11 : j = 11
    · rw [h11]; exact (z11 p).1
    by_cases h12 : j = 12
    · rw [h12]; exact (z11 p).2
    exact far j h0 h1 h2 h10 h11 h12 p
  intro i k
  show (put (put (put (put (put (put (put τ4 0 32 0) 0 33 0) 0 34 0) 0 35 (-1)) 0 36 0) 0 37 0) 0 31 2) i k = 0 ∨ _
  have P : ∀ (s : Sg) (p v : Int), (v = 0 ∨ v = -1 ∨ v = 2) → (∀ i k, s i k = 0 ∨ s i k = -1 ∨ s i k = 2) → ∀ i k, put s 0 p v i k = 0 ∨ put s 0 p v i k = -1 ∨ put s 0 p v i k = 2 := by
    intro s p v hv hs i k
    by_cases h : i = 0
    · rw [h, put_at]
      by_cases e : k = p
      · rw [if_pos e]; exact hv
      · rw [if_neg e]; exact hs 0 k
    · rw [put_ne h]; exact hs i k
  exact P _ _ _ (by decide) (P _ _ _ (by decide) (P _ _ _ (by decide) (P _ _ _ (by decide) (P _ _ _ (by decide) (P _ _ _ (by decide) (P _ _ _ (by decide) (fun i k => Or.inl (all i k)))))))) i k
end

