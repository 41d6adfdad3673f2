section
set_option linter.unusedVariables false
variable {σ τ : Sg} {V : Vw} {N : Int}
theorem fil_loop {L : Nat → Int → Sg → Option Sg} {i : Nat} {m v : Int} (h1 : ∀ n x σ, 0 ≤ x → x < m → L (n + 1) x σ = L n (x + 1) (put σ i x v)) (h2 : ∀ n x σ, m ≤ x → L (n + 1) x σ = some σ) :
    ∀ (n : Nat) (x : Int) (σ : Sg), 0 ≤ x → m - x < (n : Int) → 0 < n → ∃ σ', L n x σ = some σ' ∧ (∀ j, j ≠ i → σ' j = σ j) ∧ (∀ k, x ≤ k → k < m → σ' i k = v) ∧ (∀ k, ¬ (x ≤ k ∧ k < m) → σ' i k = σ i k) := by
  intro n
  induction n with
  | zero => intro x σ _ _ h; omega
  | succ n ih =>
    intro x σ h0 hn _
    by_cases c : x < m
    · obtain ⟨σ', a1, a2, a3, a4⟩ := ih (x + 1) (put σ i x v) (by omega) (by omega) (by omega)
      refine ⟨σ', by rw [h1 n x σ h0 c, a1], fun j hj => by rw [a2 j hj, put_ne hj], ?_, ?_⟩
      · intro k k0 k1
        by_cases e : k = x
        · rw [a4 k (by omega), e, put_T rfl]
        · exact a3 k (by omega) k1
      · intro k hk
        rw [a4 k (by omega), put_F (by omega)]
    · exact ⟨σ, h2 n x σ (by omega), fun _ _ => rfl, fun k k0 k1 => by omega, fun _ _ => rfl⟩
theorem fil2_loop {L : Nat → Int → Sg → Option Sg} {i i' : Nat} (hi : i ≠ i') {m v : Int} (h1 : ∀ n x σ, 0 ≤ x → x < m → L (n + 1) x σ = L n (x + 1) (put (put σ i x v) i' x v)) (h2 : ∀ n x σ, m ≤ x → L (n + 1) x σ = some σ) :
    ∀ (n : Nat) (x : Int) (σ : Sg), 0 ≤ x → m - x < (n : Int) → 0 < n → ∃ σ', L n x σ = some σ' ∧ (∀ j, j ≠ i → j ≠ i' → σ' j = σ j) ∧ (∀ k, x ≤ k → k < m → σ' i k = v ∧ σ' i' k = v) ∧ (∀ k, ¬ (x ≤ k ∧ k < m) → σ' i k = σ i k ∧ σ' i' k = σ i' k) := by
  intro n
  induction n with
  | zero => intro x σ _ _ h; omega
  | succ n ih =>
    intro x σ h0 hn _
    by_cases c : x < m
    · obtain ⟨σ', a1, a2, a3, a4⟩ := ih (x + 1) (put (put σ i x v) i' x v) (by omega) (by omega) (by omega)
      refine ⟨σ', by rw [h1 n x σ h0 c, a1], fun j hj hj' => by rw [a2 j hj hj', put_ne hj', put_ne hj], ?_, ?_⟩
      · intro k k0 k1
        by_cases e : k = x
        · obtain ⟨b1, b2⟩ := a4 k (by omega)
          rw [b1, b2, e, put_ne hi, put_T rfl, put_T rfl]; exact ⟨rfl, rfl⟩
        · exact a3 k (by omega) k1
      · intro k hk
        obtain ⟨b1, b2⟩ := a4 k (by omega)
        rw [b1, b2, put_ne hi, put_F (by omega), put_F (by omega), put_ne (Ne.symm hi)]; exact ⟨rfl, rfl⟩
    · exact ⟨σ, h2 n x σ (by omega), fun _ _ _ => rfl, fun k k0 k1 => by omega, fun _ _ => ⟨rfl, rfl⟩⟩
theorem fillA_ne {i j n : Nat} {v : Int} (h : j ≠ i) : fillA σ i n v j = σ j := setA_ne h
theorem fillA_at {i n : Nat} {v p : Int} : fillA σ i n v i p = if 0 ≤ p ∧ p < (n : Int) then v else σ i p := by unfold fillA; rw [setA_at]
theorem RelS_0 {t c t' c' : Int → Int} : RelS 0 t c 0 t' c' :=
  ⟨by omega, fun i _ _ => by omega, fun i j _ _ _ => by omega, ⟨fun x => x, fun x => x, fun i _ _ => by omega, fun i _ _ => by omega⟩⟩
theorem bL7 {n : Nat} {x : Int} {s : Sg} (h0 : 0 ≤ x) (h1 : x < 1024) : fX12_begin_L7 (n + 1) x s = fX12_begin_L7 n (x + 1) (put s 1 x 0) := by
  conv => lhs; unfold fX12_begin_L7
  (try simp (disch := omega) only [↓ck_e, ↓rd_e, ↓wr_e, ↓wrB_e, ↓wrZ_e, ↓dv_e, ↓md_e, ↓fdv_e, ↓cpy_e, ↓filB_e, ↓filI_e, ↓filL_e, ↓st1_e, ↓bnd_e, ↓iT, ↓iF, ↓reduceIte, put_ne, put_T, put_F, isIn_T, isIn_F])
theorem bL29 {n : Nat} {x : Int} {s : Sg} (h0 : 0 ≤ x) (h1 : x < 12) : fX12_begin_L29 (n + 1) x s = fX12_begin_L29 n (x + 1) (put s 2 x 0) := by
  conv => lhs; unfold fX12_begin_L29
  (try simp (disch := omega) only [↓ck_e, ↓rd_e, ↓wr_e, ↓wrB_e, ↓wrZ_e, ↓dv_e, ↓md_e, ↓fdv_e, ↓cpy_e, ↓filB_e, ↓filI_e, ↓filL_e, ↓st1_e, ↓bnd_e, ↓iT, ↓iF, ↓reduceIte, put_ne, put_T, put_F, isIn_T, isIn_F])
theorem bL50 {n : Nat} {x : Int} {s : Sg} (h0 : 0 ≤ x) (h1 : x < 6) : fX12_begin_L50 (n + 1) x s = fX12_begin_L50 n (x + 1) (put s 10 x 0) := by
  conv => lhs; unfold fX12_begin_L50
  (try simp (disch := omega) only [↓ck_e, ↓rd_e, ↓wr_e, ↓wrB_e, ↓wrZ_e, ↓dv_e, ↓md_e, ↓fdv_e, ↓cpy_e, ↓filB_e, ↓filI_e, ↓filL_e, ↓st1_e, ↓bnd_e, ↓iT, ↓iF, ↓reduceIte, put_ne, put_T, put_F, isIn_T, isIn_F])
theorem bL71 {n : Nat} {x : Int} {s : Sg} (h0 : 0 ≤ x) (h1 : x < 20) : fX12_begin_L71 (n + 1) x s = fX12_begin_L71 n (x + 1) (put (put s 11 x 0) 12 x 0) := by
  conv => lhs; unfold fX12_begin_L71
  (try simp (disch := omega) only [↓ck_e, ↓rd_e, ↓wr_e, ↓wrB_e, ↓wrZ_e, ↓dv_e, ↓md_e, ↓fdv_e, ↓cpy_e, ↓filB_e, ↓filI_e, ↓filL_e, ↓st1_e, ↓bnd_e, ↓iT, ↓iF, ↓reduceIte, put_ne, put_T, put_F, isIn_T, isIn_F])
theorem m_begin : Mt fX11_begin fX12_begin := by
  intro N σ τ R hN
  have v := R.v
  have cls : fX11_begin σ = some (0, put (put (put (put (fillA (put (put (put (fillA (fillA (fillA (fillA (fillA σ 2 1024 0) 5 6 0) 7 12 0) 14 20 0) 15 20 0) 19 4 0) 40 3 0) 44 3 0) 49 120 0) 48 9 (-1)) 54 6 0) 0 9 2) 0 10 0) := by
    unfold fX11_begin fX8_forget fX2_forget fX0_forget fX7_forget fX7_forgetFaults
    (try simp (disch := omega) only [↓ck_e, ↓rd_e, ↓wr_e, ↓wrB_e, ↓wrZ_e, ↓dv_e, ↓md_e, ↓fdv_e, ↓cpy_e, ↓filB_e, ↓filI_e, ↓filL_e, ↓st1_e, ↓bnd_e, ↓iT, ↓iF, ↓reduceIte, put_ne, put_T, put_F, isIn_T, isIn_F])
  obtain ⟨τ1, a1, a2, a3, a4⟩ := fil_loop (L := fun n x s => fX12_begin_L7 n x s) (i := 1) (m := 1024) (v := 0) (fun n x s h0 h1 => bL7 h0 h1) (fun n x s h => by unfold fX12_begin_L7; (try simp (disch := omega) only [↓ck_e, ↓rd_e, ↓wr_e, ↓wrB_e, ↓wrZ_e, ↓dv_e, ↓md_e, ↓fdv_e, ↓cpy_e, ↓filB_e, ↓filI_e, ↓filL_e, ↓st1_e, ↓bnd_e, ↓iT, ↓iF, ↓reduceIte, put_ne, put_T, put_F, isIn_T, isIn_F])) fu 0 (put τ 0 54 0) (by omega) (by rw [fu_i]; omega) fu_pos
  obtain ⟨τ2, b1, b2, b3, b4⟩ := fil_loop (L := fun n x s => fX12_begin_L29 n x s) (i := 2) (m := 12) (v := 0) (fun n x s h0 h1 => bL29 h0 h1) (fun n x s h => by unfold fX12_begin_L29; (try simp (disch := omega) only [↓ck_e, ↓rd_e, ↓wr_e, ↓wrB_e, ↓wrZ_e, ↓dv_e, ↓md_e, ↓fdv_e, ↓cpy_e, ↓filB_e, ↓filI_e, ↓filL_e, ↓st1_e, ↓bnd_e, ↓iT, ↓iF, ↓reduceIte, put_ne, put_T, put_F, isIn_T, isIn_F])) fu 0 τ1 (by omega) (by rw [fu_i]; omega) fu_pos
  obtain ⟨τ3, c1, c2, c3, c4⟩ := fil_loop (L := fun n x s => fX12_begin_L50 n x s) (i := 10) (m := 6) (v := 0) (fun n x s h0 h1 => bL50 h0 h1) (fun n x s h => by unfold fX12_begin_L50; (try simp (disch := omega) only [↓ck_e, ↓rd_e, ↓wr_e, ↓wrB_e, ↓wrZ_e, ↓dv_e, ↓md_e, ↓fdv_e, ↓cpy_e, ↓filB_e, ↓filI_e, ↓filL_e, ↓st1_e, ↓bnd_e, ↓iT, ↓iF, ↓reduceIte, put_ne, put_T, put_F, isIn_T, isIn_F])) fu 0 τ2 (by omega) (by rw [fu_i]; omega) fu_pos
  obtain ⟨τ4, d1, d2, d3, d4⟩ := fil2_loop (L := fun n x s => fX12_begin_L71 n x s) (i := 11) (i' := 12) (by decide) (m := 20) (v := 0) (fun n x s h0 h1 => bL71 h0 h1) (fun n x s h => by unfold fX12_begin_L71; (try simp (disch := omega) only [↓ck_e, ↓rd_e, ↓wr_e, ↓wrB_e, ↓wrZ_e, ↓dv_e, ↓md_e, ↓fdv_e, ↓cpy_e, ↓filB_e, ↓filI_e, ↓filL_e, ↓st1_e, ↓bnd_e, ↓iT, ↓iF, ↓reduceIte, put_ne, put_T, put_F, isIn_T, isIn_F])) fu 0 τ3 (by omega) (by rw [fu_i]; omega) fu_pos
  have rf : fX12_begin τ = some (0, put (put (put (put (put (put (put τ4 0 32 0) 0 33 0) 0 34 0) 0 35 (-1)) 0 36 0) 0 37 0) 0 31 2) := by
    unfold fX12_begin
    rw [st1_e, a1]; simp only [bnd_e]; rw [b1]; simp only [bnd_e]; rw [c1]; simp only [bnd_e]; rw [d1]; simp only [bnd_e]
    (try simp (disch := omega) only [↓ck_e, ↓rd_e, ↓wr_e, ↓wrB_e, ↓wrZ_e, ↓dv_e, ↓md_e, ↓fdv_e, ↓cpy_e, ↓filB_e, ↓filI_e, ↓filL_e, ↓st1_e, ↓bnd_e, ↓iT, ↓iF, ↓reduceIte, put_ne, put_T, put_F, isIn_T, isIn_F])
  refine ⟨_, _, _, cls, rf, ?_⟩
  have far : ∀ j, j ≠ 0 → j ≠ 1 → j ≠ 2 → j ≠ 10 → j ≠ 11 → j ≠ 12 → τ4 j = τ j := fun j j0 j1 j2 j10 j11 j12 => by
    rw [d2 j j11 j12, c2 j j10, b2 j j2, a2 j j1, put_ne j0]
  have t0 : ∀ p, p ≠ 54 → τ4 0 p = τ 0 p := fun p hp => by
    rw [d2 0 (by decide) (by decide), c2 0 (by decide), b2 0 (by decide), a2 0 (by decide), put_F hp]
  have t54 : τ4 0 54 = 0 := by
    rw [d2 0 (by decide) (by decide), c2 0 (by decide), b2 0 (by decide), a2 0 (by decide), put_T rfl]
  have g1 : ∀ k : Int, 0 ≤ k → k < 1024 → τ4 1 k = 0 := fun k h0 h1 => by
    rw [d2 1 (by decide) (by decide), c2 1 (by decide), b2 1 (by decide)]; exact a3 k h0 h1
  have g2 : ∀ k : Int, 0 ≤ k → k < 12 → τ4 2 k = 0 := fun k h0 h1 => by
    rw [d2 2 (by decide) (by decide), c2 2 (by decide)]; exact b3 k h0 h1
  have g10 : ∀ k : Int, 0 ≤ k → k < 6 → τ4 10 k = 0 := fun k h0 h1 => by
    rw [d2 10 (by decide) (by decide)]; exact c3 k h0 h1
  have cl : ∀ j : Nat, j ≠ 0 → j ≠ 2 → j ≠ 5 → j ≠ 7 → j ≠ 14 → j ≠ 15 → j ≠ 19 → j ≠ 40 → j ≠ 44 → j ≠ 48 → j ≠ 49 → j ≠ 54 → (put (put (put (put (fillA (put (put (put (fillA (fillA (fillA (fillA (fillA σ 2 1024 0) 5 6 0) 7 12 0) 14 20 0) 15 20 0) 19 4 0) 40 3 0) 44 3 0) 49 120 0) 48 9 (-1)) 54 6 0) 0 9 2) 0 10 0) j = σ j := by
    intro j h0 h2 h5 h7 h14 h15 h19 h40 h44 h48 h49 h54
    rw [put_ne h0, put_ne h0, put_ne h54, put_ne h48, fillA_ne h49, put_ne h44, put_ne h40, put_ne h19, fillA_ne h15, fillA_ne h14, fillA_ne h7, fillA_ne h5, fillA_ne h2]
  generalize hS : (put (put (put (put (fillA (put (put (put (fillA (fillA (fillA (fillA (fillA σ 2 1024 0) 5 6 0) 7 12 0) 14 20 0) 15 20 0) 19 4 0) 40 3 0) 44 3 0) 49 120 0) 48 9 (-1)) 54 6 0) 0 9 2) 0 10 0) = σ' at cl
  have s2 : ∀ k : Int, 0 ≤ k → k < 1024 → σ' 2 k = 0 := fun k h0 h1 => by
    rw [← hS]; simp (disch := decide) only [put_ne, fillA_ne, fillA_at]; rw [if_pos ⟨h0, h1⟩]
  have s5 : ∀ k : Int, 0 ≤ k → k < 6 → σ' 5 k = 0 := fun k h0 h1 => by
    rw [← hS]; simp (disch := decide) only [put_ne, fillA_ne, fillA_at]; rw [if_pos ⟨h0, h1⟩]
  have s7 : ∀ k : Int, 0 ≤ k → k < 12 → σ' 7 k = 0 := fun k h0 h1 => by
    rw [← hS]; simp (disch := decide) only [put_ne, fillA_ne, fillA_at]; rw [if_pos ⟨h0, h1⟩]
  have s14 : ∀ k : Int, 0 ≤ k → k < 20 → σ' 14 k = 0 := fun k h0 h1 => by
    rw [← hS]; simp (disch := decide) only [put_ne, fillA_ne, fillA_at]; rw [if_pos ⟨h0, h1⟩]
  have s15 : ∀ k : Int, 0 ≤ k → k < 20 → σ' 15 k = 0 := fun k h0 h1 => by
    rw [← hS]; simp (disch := decide) only [put_ne, fillA_ne, fillA_at]; rw [if_pos ⟨h0, h1⟩]
  have s19 : σ' 19 4 = 0 := by rw [← hS]; simp (disch := decide) only [put_ne, fillA_ne, put_T]
  have s40 : σ' 40 3 = 0 := by rw [← hS]; simp (disch := decide) only [put_ne, fillA_ne, put_T]
  have s44 : σ' 44 3 = 0 := by rw [← hS]; simp (disch := decide) only [put_ne, fillA_ne, put_T]
  have s48 : σ' 48 9 = -1 := by rw [← hS]; simp (disch := decide) only [put_ne, fillA_ne, put_T]
  have s54 : σ' 54 6 = 0 := by rw [← hS]; simp (disch := decide) only [put_ne, fillA_ne, put_T]
  have s09 : σ' 0 9 = 2 := by rw [← hS]; simp (disch := decide) only [put_ne, fillA_ne, put_T, put_F]
  have s010 : σ' 0 10 = 0 := by rw [← hS]; simp (disch := decide) only [put_ne, fillA_ne, put_T, put_F]
  generalize hT : (put (put (put (put (put (put (put τ4 0 32 0) 0 33 0) 0 34 0) 0 35 (-1)) 0 36 0) 0 37 0) 0 31 2) = τ'
  have q : ∀ j, j ≠ 0 → τ' j = τ4 j := fun j hj => by rw [← hT, put_ne hj, put_ne hj, put_ne hj, put_ne hj, put_ne hj, put_ne hj, put_ne hj]
  have q32 : τ' 0 32 = 0 := by rw [← hT]; simp (disch := decide) only [put_T, put_F]
  have q33 : τ' 0 33 = 0 := by rw [← hT]; simp (disch := decide) only [put_T, put_F]
  have q34 : τ' 0 34 = 0 := by rw [← hT]; simp (disch := decide) only [put_T, put_F]
  have q35 : τ' 0 35 = -1 := by rw [← hT]; simp (disch := decide) only [put_T, put_F]
  have q36 : τ' 0 36 = 0 := by rw [← hT]; simp (disch := decide) only [put_T, put_F]
  have q37 : τ' 0 37 = 0 := by rw [← hT]; simp (disch := decide) only [put_T, put_F]
  have q31 : τ' 0 31 = 2 := by rw [← hT]; simp (disch := decide) only [put_T, put_F]
  have q54 : τ' 0 54 = 0 := by rw [← hT]; simp (disch := decide) only [put_F, t54]
  have c5 := R.ref
  refine (Rel.mk (v := ?_) (gap := by rw [s09, q31]; omega) (ref := by rw [s010, q37]; omega) (seen := by rw [s54, q36]; exact RelS_0) (tape := ?_) (play := .inl q54))
  · exact (RelV.all (g := fun k h0 h1 => by dsimp only [vw]; rw [s2 k h0 h1, q 1 (by decide), g1 k h0 h1]; omega) (k := fun k h0 h1 => by
        have := v.k k h0 h1
        dsimp only [vw] at this ⊢
        rw [s7 k h0 h1, q 2 (by decide), g2 k h0 h1, cl 8 (by decide) (by decide) (by decide) (by decide) (by decide) (by decide) (by decide) (by decide) (by decide) (by decide) (by decide) (by decide), cl 9 (by decide) (by decide) (by decide) (by decide) (by decide) (by decide) (by decide) (by decide) (by decide) (by decide) (by decide) (by decide), cl 10 (by decide) (by decide) (by decide) (by decide) (by decide) (by decide) (by decide) (by decide) (by decide) (by decide) (by decide) (by decide), cl 11 (by decide) (by decide) (by decide) (by decide) (by decide) (by decide) (by decide) (by decide) (by decide) (by decide) (by decide) (by decide), cl 12 (by decide) (by decide) (by decide) (by decide) (by decide) (by decide) (by decide) (by decide) (by decide) (by decide) (by decide) (by decide),
          q 3 (by decide), q 4 (by decide), q 5 (by decide), q 6 (by decide), q 7 (by decide), far 3 (by decide) (by decide) (by decide) (by decide) (by decide) (by decide), far 4 (by decide) (by decide) (by decide) (by decide) (by decide) (by decide), far 5 (by decide) (by decide) (by decide) (by decide) (by decide) (by decide), far 6 (by decide) (by decide) (by decide) (by decide) (by decide) (by decide), far 7 (by decide) (by decide) (by decide) (by decide) (by decide) (by decide)]
        exact ⟨⟨rfl, this.1.2⟩, by omega, fun x => by omega⟩) (b := fun k h0 h1 => by dsimp only [vw]; rw [s5 k h0 h1, q 10 (by decide), g10 k h0 h1]; exact ⟨rfl, by omega, fun x => by omega⟩) (d := fun k h0 h1 => by dsimp only [vw]; rw [s14 k h0 h1, s15 k h0 h1, q 11 (by decide), q 12 (by decide), (d3 k h0 h1).1, (d3 k h0 h1).2]; omega) (n := by dsimp only [vw]; rw [s19, q32]; omega) (c := fun k h0 h1 => by dsimp only [vw] at h1; rw [q32] at h1; omega) (m := by
        refine ⟨by dsimp only [vw]; rw [s40, q33]; omega, fun k h0 h1 => ?_⟩
        dsimp only [vw] at h1; rw [q33] at h1; omega) (r := by
        refine ⟨by dsimp only [vw]; rw [s44, q34]; omega, fun k h0 h1 => ?_⟩
        dsimp only [vw] at h1; rw [q34] at h1; omega) (h := by dsimp only [vw]; rw [s48, q35]; omega) (f := fun k w t _ _ => by
        have t2 := t.2
        dsimp only [vw] at t2
        rw [q 2 (by decide), g2 k t.1.1 t.1.2] at t2; omega))
  · refine tape_congr R.tape (fun j hj => cl j ?_ ?_ ?_ ?_ ?_ ?_ ?_ ?_ ?_ ?_ ?_ ?_) (fun j h1 h2 => by rw [q j (by omega), far j (by omega) (by omega) (by omega) (by omega) (by omega) (by omega)]) <;> omega
end

section
set_option linter.unusedVariables false
variable {σ τ : Sg} {V : Vw} {N : Int}

theorem both_play (R : Rel N σ τ) : ∃ σ' τ', fX7_reckon σ = some σ' ∧ fX12_plays τ = some τ' ∧ Rel N σ' τ' ∧ vw τ' = vw τ ∧ Played (vw τ) (σ' 50) (σ' 52) (σ' 53) ∧ Played (vw τ) (τ' 40) (τ' 41) (τ' 42) ∧ (∀ j, j ≠ 0 → j ≠ 39 → j ≠ 40 → j ≠ 41 → j ≠ 42 → τ' j = τ j) ∧ (∀ p, p ≠ 54 → τ' 0 p = τ 0 p) ∧ (∀ j, j ≠ 50 → j ≠ 51 → j ≠ 52 → j ≠ 53 → σ' j = σ j) := by
  obtain ⟨σ', a1, a2, a3⟩ := cc_reckon R.v
  obtain ⟨τ', b1, b2, b3, b4, b5⟩ := rr_plays R.v.toRelN R.play
  have hv : vw τ' = vw τ := vw_congr (fun j hj => b2 j (ne_of_mem hj (by decide)) (ne_of_mem hj (by decide)) (ne_of_mem hj (by decide)) (ne_of_mem hj (by decide)) (ne_of_mem hj (by decide))) (b3 _ (by decide)) (b3 _ (by decide)) (b3 _ (by decide)) (b3 _ (by decide))
  refine ⟨σ', τ', a1, b1, ?_, hv, a3, b5, b2, b3, a2⟩
  refine Rel_scr R (fun j j1 j2 j3 => a2 j (by omega) (by omega) (by omega) (by omega)) (fun j j0 j1 j2 => b2 j j0 (by omega) (by omega) (by omega) (by omega)) (fun p p0 p1 => b3 p (by omega)) ?_
  right
  rw [hv]; exact ⟨b4, b5⟩
theorem fate1_rng (V : Vw) (c m : Int) : 0 ≤ fate1 V c m ∧ fate1 V c m ≤ 6 := by
  unfold fate1
  split
  · omega
  split
  · omega
  split
  · omega
  split
  · omega
  split
  · omega
  split <;> omega
theorem plF_ex (V : Vw) (L : Int → Int) : ∀ (i : Nat) (j : Int), 0 ≤ j → j < i → ∃ m, plF V L i (L j) = fate1 V (L j) m
  | 0, j, h0, h1 => by omega
  | i + 1, j, h0, h1 => by
    unfold plF
    by_cases e : L j = L i
    · rw [zupd_T e, e]; exact ⟨_, rfl⟩
    · rw [zupd_F e]
      exact plF_ex V L i j h0 (by
        by_cases e2 : j = i
        · exact absurd (by rw [e2]) e
        · omega)
theorem fateV_ex (R : RelN σ V) {c : Int} (h0 : 0 ≤ c) (h1 : c < V.2.2.2.2.2.1) : ∃ m, fateV V c = fate1 V c m := by
  obtain ⟨j, a, b, rfl⟩ := line_sur R h0 h1
  exact plF_ex V (lineV V) V.2.2.2.2.2.1.toNat j a (by omega)
theorem fateV_rng (R : RelN σ V) {c : Int} (h0 : 0 ≤ c) (h1 : c < V.2.2.2.2.2.1) : 0 ≤ fateV V c ∧ fateV V c ≤ 6 := by
  obtain ⟨m, e⟩ := fateV_ex R h0 h1
  rw [e]; exact fate1_rng V c m
theorem has_told (R : RelN σ V) {c : Int} (h0 : 0 ≤ c) (h1 : c < V.2.2.2.2.2.1) (h : isSh (fateV V c)) : told V (hasV V c) := by
  obtain ⟨m, e⟩ := fateV_ex R h0 h1
  rw [e] at h
  have hne : hasV V c ≠ -1 := by
    intro x
    unfold fate1 at h
    rw [if_pos x] at h
    unfold isSh at h
    split at h
    · omega
    split at h
    · omega
    split at h <;> omega
  unfold hasV at hne ⊢
  by_cases w : wellV V c
  · rw [if_pos w]; exact (R.c c h0 h1).2.1
  · rw [if_neg w] at hne ⊢
    exact (other_ne R hne).1
theorem lineV_rng (R : RelN σ V) {c : Int} (h0 : 0 ≤ c) (h1 : c < V.2.2.2.2.2.1) : 0 ≤ lineV V c ∧ lineV V c < V.2.2.2.2.2.1 := by
  have := srtF_rng (fireV V) V.2.2.2.2.2.1.toNat c h0 (by omega)
  unfold lineV; omega
theorem fateOf_e {c : Int} (h0 : 0 ≤ c) (h1 : c < 120) : fX7_fateOf c σ = some (σ 52 c) := by unfold fX7_fateOf; (try simp (disch := omega) only [↓ck_e, ↓rd_e, ↓wr_e, ↓wrB_e, ↓wrZ_e, ↓dv_e, ↓md_e, ↓fdv_e, ↓cpy_e, ↓filB_e, ↓filI_e, ↓filL_e, ↓st1_e, ↓bnd_e, ↓iT, ↓iF, ↓reduceIte, put_ne, put_T, put_F, isIn_T, isIn_F])
theorem m_fate (c : Int) : Mt (fX11_fate c) (fX12_fate c) := by
  intro N σ τ R hN
  have v := R.v
  have hn := v.n
  dsimp only [vw] at hn
  unfold fX11_fate fX12_fate
  rw [cc_isCue v.toRelN, rr_isCue (by omega) (by omega)]; simp only [bnd_e]
  by_cases h : 0 ≤ c ∧ c < τ 0 32
  · rw [bi_T h]; (try simp only [bnd_e, one0, two0, if_false, ↓reduceIte])
    obtain ⟨σ', τ', a1, a2, a3, a4, a5, a6, -⟩ := both_play R
    rw [a1, a2]; simp only [bnd_e]
    rw [fateOf_e h.1 (by omega), rd_e h.1 (by omega)]
    refine ⟨_, _, _, rfl, ?_, a3.up⟩
    rw [(a5 c h.1 h.2).2.1, (a6 c h.1 h.2).2.1]
  · rw [bi_F h]; exact no_ch R
theorem m_order (c : Int) : Mt (fX11_order c) (fX12_order c) := by
  intro N σ τ R hN
  have v := R.v
  have hn := v.n
  dsimp only [vw] at hn
  unfold fX11_order fX12_order
  rw [cc_isCue v.toRelN, rr_isCue (by omega) (by omega)]; simp only [bnd_e]
  by_cases h : 0 ≤ c ∧ c < τ 0 32
  · rw [bi_T h]; (try simp only [bnd_e, one0, two0, if_false, ↓reduceIte])
    obtain ⟨σ', τ', a1, a2, a3, a4, a5, a6, -⟩ := both_play R
    rw [a1, a2]; simp only [bnd_e]
    have e : fX7_cueAt c σ' = some (σ' 50 c) := by unfold fX7_cueAt; (try simp (disch := omega) only [↓ck_e, ↓rd_e, ↓wr_e, ↓wrB_e, ↓wrZ_e, ↓dv_e, ↓md_e, ↓fdv_e, ↓cpy_e, ↓filB_e, ↓filI_e, ↓filL_e, ↓st1_e, ↓bnd_e, ↓iT, ↓iF, ↓reduceIte, put_ne, put_T, put_F, isIn_T, isIn_F])
    rw [e, rd_e h.1 (by omega)]
    refine ⟨_, _, _, rfl, ?_, a3.up⟩
    rw [(a5 c h.1 h.2).1, (a6 c h.1 h.2).1]
  · rw [bi_F h]; exact no_ch R
theorem m_many (x : Int) : Mt (fX11_many x) (fX12_many x) := by
  intro N σ τ R hN
  have v := R.v
  have hn := v.n
  dsimp only [vw] at hn
  unfold fX11_many fX12_many
  rw [isIn_b]; simp only [bnd_e]
  by_cases h : 0 ≤ x ∧ x ≤ 6
  · rw [bi_T h, iF (show ¬ x < 0 by omega), iT h.2]; (try simp only [bnd_e, one0, two0, if_false, ↓reduceIte])
    obtain ⟨σ', τ', a1, a2, a3, a4, a5, a6, f1, f2, f3⟩ := both_play R
    rw [a1, a2]; simp only [bnd_e]
    have hn' : σ' 19 4 = τ 0 32 := by rw [f3 19 (by decide) (by decide) (by decide) (by decide)]; exact hn.1
    have hn2 : τ' 0 32 = τ 0 32 := f2 32 (by decide)
    have l1 := cnt (L := fun n a i => fX11_many_L23 n x a i σ') (m := τ 0 32) (g := fun i => bi (fateV (vw τ) i = x)) (fun j => bi_rng)
      (fun n a i i0 i1 a0 a1 => by
        conv => lhs; unfold fX11_many_L23
        rw [iT (by omega), fateOf_e i0 (by omega), (a5 i i0 i1).2.1]; simp only [bnd_e]
        by_cases e : fateV (vw τ) i = x
        · rw [iT e, bi_T e]; unfold fX11_many_L23P49; (try simp (disch := omega) only [↓ck_e, ↓rd_e, ↓wr_e, ↓wrB_e, ↓wrZ_e, ↓dv_e, ↓md_e, ↓fdv_e, ↓cpy_e, ↓filB_e, ↓filI_e, ↓filL_e, ↓st1_e, ↓bnd_e, ↓iT, ↓iF, ↓reduceIte, put_ne, put_T, put_F, isIn_T, isIn_F])
        · rw [iF e, bi_F e]; unfold fX11_many_L23P49; (try simp (disch := omega) only [↓ck_e, ↓rd_e, ↓wr_e, ↓wrB_e, ↓wrZ_e, ↓dv_e, ↓md_e, ↓fdv_e, ↓cpy_e, ↓filB_e, ↓filI_e, ↓filL_e, ↓st1_e, ↓bnd_e, ↓iT, ↓iF, ↓reduceIte, put_ne, put_T, put_F, isIn_T, isIn_F]); rw [show a + 0 = a by omega])
      (fun n a i i0 => by unfold fX11_many_L23; rw [iF (by omega)]) fu 0 0 (by omega) (by omega) (by omega) (by rw [fu_i]; omega) fu_pos
    have l2 := cnt (L := fun n a i => fX12_many_L20 n x a i τ') (m := τ 0 32) (g := fun i => bi (fateV (vw τ) i = x)) (fun j => bi_rng)
      (fun n a i i0 i1 a0 a1 => by
        conv => lhs; unfold fX12_many_L20
        rw [iT (by omega), rd_e i0 (by omega), (a6 i i0 i1).2.1]
        by_cases e : fateV (vw τ) i = x
        · rw [iT e, bi_T e]; unfold fX12_many_L20P44; (try simp (disch := omega) only [↓ck_e, ↓rd_e, ↓wr_e, ↓wrB_e, ↓wrZ_e, ↓dv_e, ↓md_e, ↓fdv_e, ↓cpy_e, ↓filB_e, ↓filI_e, ↓filL_e, ↓st1_e, ↓bnd_e, ↓iT, ↓iF, ↓reduceIte, put_ne, put_T, put_F, isIn_T, isIn_F])
        · rw [iF e, bi_F e]; unfold fX12_many_L20P44; (try simp (disch := omega) only [↓ck_e, ↓rd_e, ↓wr_e, ↓wrB_e, ↓wrZ_e, ↓dv_e, ↓md_e, ↓fdv_e, ↓cpy_e, ↓filB_e, ↓filI_e, ↓filL_e, ↓st1_e, ↓bnd_e, ↓iT, ↓iF, ↓reduceIte, put_ne, put_T, put_F, isIn_T, isIn_F]))
      (fun n a i i0 => by unfold fX12_many_L20; rw [iF (by omega)]) fu 0 0 (by omega) (by omega) (by omega) (by rw [fu_i]; omega) fu_pos
    rw [l1, l2]
    exact ⟨_, _, _, rfl, rfl, a3.up⟩
  · rw [bi_F h]
    by_cases h0 : x < 0
    · rw [iT h0]; exact no_ch R
    · rw [iF h0, iF (show ¬ x ≤ 6 by omega)]; exact no_ch R

def Mg (f fT g : Sg → Option (Int × Sg)) : Prop := ∀ N σ τ, Rel N σ τ → N ≤ 1000000 → ∃ w τ', g τ = some (w, τ') ∧
  ((∃ σ', f σ = some (w, σ') ∧ τ' 0 38 = 0 ∧ Rel (N + 1) σ' τ') ∨ (∃ q σ', (q = 1 ∨ q = 2) ∧ fT σ = some (q, σ') ∧ τ' 0 38 = q ∧ Rel (N + 1) σ' τ'))
theorem Rel_38 {x : Int} (R : Rel N σ τ) : Rel N σ (put τ 0 38 x) := by
  refine Rel_scr R (fun _ _ _ _ => rfl) (fun j h _ _ => put_ne h) (fun p h1 h2 => put_F (by omega)) ?_
  rcases R.play with h | ⟨h1, h2⟩
  · exact .inl (by rw [put_F (by decide)]; exact h)
  · exact .inr ⟨by rw [put_F (by decide)]; exact h1, h2⟩
theorem m_goes (c x : Int) : Mg (fX11_goes c x) (fX11_goesT c x) (fX12_goes c x) := by
  intro N σ τ R hN
  have v := R.v
  have hn := v.n
  dsimp only [vw] at hn
  unfold fX11_goes fX11_goesT fX12_goes
  rw [cc_isCue v.toRelN, rr_isCue (by omega) (by omega)]; simp only [bnd_e]
  have bad : ∃ w τ', fX12_goes_P18 c x τ = some (w, τ') ∧ τ' 0 38 = 1 ∧ Rel (N + 1) σ τ' := by
    refine ⟨0, put τ 0 38 1, ?_, put_T rfl, (Rel_38 R).up⟩
    unfold fX12_goes_P18 fX12_goes_P23
    rw [st1_e, put_T rfl, iF (by decide)]
  have badC : ∃ σ', fX11_goesT_P20 σ = some ((1 : Int), σ') ∧ σ' = σ := ⟨σ, rfl, rfl⟩
  by_cases h : 0 ≤ c ∧ c < τ 0 32
  · rw [bi_T h]; (try simp only [bnd_e, one0, two0, if_false, ↓reduceIte])
    rw [isIn_b]; simp only [bnd_e]
    by_cases hx : 0 ≤ x ∧ x ≤ 2
    · rw [bi_T hx, iF (show ¬ x < 0 by omega), iT hx.2, iF (show ¬ x < 0 by omega), iT hx.2]; (try simp only [bnd_e, one0, two0, if_false, ↓reduceIte])
      obtain ⟨σ', τ', a1, a2, a3, a4, a5, a6, f1, f2, f3⟩ := both_play (Rel_38 (x := 0) R)
      have hvw : vw (put τ 0 38 0) = vw τ := rfl
      rw [hvw] at a4 a5 a6
      unfold fX12_goes_P23
      rw [st1_e, put_T rfl, iT rfl, a1, a2]; simp only [bnd_e]
      rw [fateOf_e h.1 (by omega), rd_e h.1 (by omega), (a5 c h.1 h.2).2.1, (a6 c h.1 h.2).2.1]; simp only [bnd_e]
      have hr := fateV_rng v.toRelN h.1 h.2
      have hhC := (a5 c h.1 h.2).2.2
      have hhR := (a6 c h.1 h.2).2.2
      rw [(a5 c h.1 h.2).2.1] at hhC
      rw [(a6 c h.1 h.2).2.1] at hhR
      have ht := has_told v.toRelN h.1 h.2
      generalize hF : fateV (vw τ) c = F at hr hhC hhR ht ⊢
      have vR : RelN σ' (vw τ') := a3.v.toRelN
      rw [a4] at vR
      have e := v.c c h.1 h.2
      by_cases c1 : F ≤ 1
      · have sh : isSh F := by unfold isSh; omega
        have ht := ht sh
        have hk := v.k _ ht.1.1 ht.1.2
        have htk := ht.1
        have hhC := hhC sh
        have hhR := hhR sh
        have g13 : τ' 13 = τ 13 := f1 13 (by decide) (by decide) (by decide) (by decide) (by decide)
        have g2 : τ' 2 = τ 2 := f1 2 (by decide) (by decide) (by decide) (by decide) (by decide)
        have g17 : τ' 17 = τ 17 := f1 17 (by decide) (by decide) (by decide) (by decide) (by decide)
        have hkh : fX7_kindHad c σ' = some (hasV (vw τ) c) := by
          unfold fX7_kindHad; (try simp (disch := omega) only [↓ck_e, ↓rd_e, ↓wr_e, ↓wrB_e, ↓wrZ_e, ↓dv_e, ↓md_e, ↓fdv_e, ↓cpy_e, ↓filB_e, ↓filI_e, ↓filL_e, ↓st1_e, ↓bnd_e, ↓iT, ↓iF, ↓reduceIte, put_ne, put_T, put_F, isIn_T, isIn_F]); rw [hhC]
        have hk0 := (v.k _ e.2.1.1.1 e.2.1.1.2).2.1
        dsimp only [vw] at e hk hk0
        have ans : ∃ w, fX11_goes_P67 c x σ' = some (w, σ') ∧ fX12_goes_P55 c x 0 τ' = some (w, put τ' 0 38 0) := by
          unfold fX11_goes_P67 fX12_goes_P55
          rw [hkh, st1_e, put_T rfl, iT rfl]; simp only [bnd_e]
          by_cases x0 : x = 0
          · rw [iT x0, iT x0, rd_e h.1 (by omega), put_ne (by decide), hhR]; exact ⟨_, rfl, rfl⟩
          · rw [iF x0, iF x0]
            by_cases x1 : x = 1
            · rw [iT x1, iT x1, cc_burst vR h.1 h.2, rd_e h.1 (by omega), rd_e h.1 (by omega)]; simp (disch := decide) only [put_ne, bnd_e]
              rw [hhR, rd_e (by omega) (by omega)]; simp (disch := decide) only [put_ne]; rw [g13, g2]
              rw [cc_lift vR ht]; simp only [bnd_e]
              try dsimp only [vw]
              rw [ck_e (by omega) (by omega), ck_e (by omega) (by omega)]; exact ⟨_, rfl, rfl⟩
            · rw [iF x1, iF x1, cc_burst vR h.1 h.2, cc_fault vR h.1 h.2, rd_e h.1 (by omega), rd_e h.1 (by omega)]; simp (disch := decide) only [put_ne, bnd_e]; rw [g13, g17]
              try dsimp only [vw]
              rw [ck_e (by omega) (by omega), ck_e (by omega) (by omega)]; exact ⟨_, rfl, rfl⟩
        obtain ⟨w, w1, w2⟩ := ans
        refine ⟨w, put τ' 0 38 0, by rw [iT c1, w2], .inl ⟨σ', ?_, put_T rfl, (Rel_38 a3).up⟩⟩
        by_cases f0 : F = 0
        · rw [iT f0]; exact w1
        · rw [iF f0, iT (by omega)]; exact w1
      · refine ⟨0, put τ' 0 38 2, ?_, .inr ⟨2, σ', by omega, ?_, put_T rfl, (Rel_38 a3).up⟩⟩
        · rw [iF c1]; unfold fX12_goes_P55; rw [st1_e, put_T rfl, iF (by decide)]
        · rw [iF (by omega), iF (by omega)]
    · rw [bi_F hx]; (try simp only [bnd_e, one0, two0, if_false, ↓reduceIte])
      obtain ⟨w, τ', b1, b2, b3⟩ := bad
      refine ⟨w, τ', b1, .inr ⟨1, σ, by omega, ?_, b2, b3⟩⟩
      by_cases h0 : x < 0
      · rw [iT h0]; rfl
      · rw [iF h0, iF (show ¬ x ≤ 2 by omega)]; rfl
  · rw [bi_F h]; (try simp only [bnd_e, one0, two0, if_false, ↓reduceIte])
    obtain ⟨w, τ', b1, b2, b3⟩ := bad
    exact ⟨w, τ', b1, .inr ⟨1, σ, by omega, rfl, b2, b3⟩⟩

def Mc (f fT : Sg → Option Int) (g : Sg → Option (Int × Sg)) : Prop := ∀ N σ τ, Rel N σ τ → ∃ w τ', g τ = some (w, τ') ∧ Rel N σ τ' ∧ ((f σ = some w ∧ τ' 0 38 = 0) ∨ (∃ q, (q = 1 ∨ q = 2) ∧ fT σ = some q ∧ τ' 0 38 = q))
theorem m_cue (c x : Int) : Mc (fX11_cue c x) (fX11_cueT c x) (fX12_cue c x) := by
  intro N σ τ R
  have v := R.v
  have hn := v.n
  dsimp only [vw] at hn
  unfold fX11_cue fX11_cueT fX12_cue
  rw [isIn_b]; simp only [bnd_e]
  by_cases hx : 0 ≤ x ∧ x ≤ 4
  · rw [bi_T hx, iF (show ¬ x < 0 by omega), iT hx.2, iF (show ¬ x < 0 by omega), iT hx.2, cc_isCue v.toRelN, rr_isCue (by omega) (by omega)]; (try simp only [bnd_e, one0, two0, if_false, ↓reduceIte])
    by_cases h : 0 ≤ c ∧ c < τ 0 32
    · rw [bi_T h]; (try simp only [bnd_e, one0, two0, if_false, ↓reduceIte])
      have e := v.c c h.1 h.2
      have ht := e.2.1
      have hk := v.k _ ht.1.1 ht.1.2
      have hti := ht.1
      dsimp only [vw] at hk e hti
      unfold fX12_cue_P27
      rw [st1_e, put_T rfl, iT rfl]
      have main : ∃ w, (if x = 0 then (fX1_burstOf 19 c σ).bind fun q16 => some q16 else if x = 1 then (fX1_kindOf 19 c σ).bind fun q14 => some q14 else if x = 2 then (fX1_bargeOf 19 c σ).bind fun q12 => some q12 else if x = 3 then (fX1_angleOf 19 c σ).bind fun q10 => some q10 else (fX8_fireOf 19 c σ).bind fun q4 => some q4) = some w ∧
          (if x = 0 then rd (put τ 0 38 0) 13 120 c fun v48 => some (v48, put τ 0 38 0) else if x = 1 then rd (put τ 0 38 0) 14 120 c fun v45 => some (v45, put τ 0 38 0) else if x = 2 then rd (put τ 0 38 0) 15 120 c fun v42 => some (v42, put τ 0 38 0) else if x = 3 then rd (put τ 0 38 0) 16 120 c fun v39 => some (v39, put τ 0 38 0) else rd (put τ 0 38 0) 13 120 c fun v31 => rd (put τ 0 38 0) 14 120 c fun v33 => rd (put τ 0 38 0) 2 12 v33 fun v35 => ck (v31 - v35) fun v37 => some (v37, put τ 0 38 0)) = some (w, put τ 0 38 0) := by
        by_cases x0 : x = 0
        · rw [iT x0, iT x0, cc_burst v.toRelN h.1 h.2, rd_e h.1 (by omega)]; exact ⟨_, rfl, rfl⟩
        · rw [iF x0, iF x0]
          by_cases x1 : x = 1
          · rw [iT x1, iT x1, cc_kind v.toRelN h.1 h.2, rd_e h.1 (by omega)]; exact ⟨_, rfl, rfl⟩
          · rw [iF x1, iF x1]
            by_cases x2 : x = 2
            · rw [iT x2, iT x2, cc_barge v.toRelN h.1 h.2, rd_e h.1 (by omega)]; exact ⟨_, rfl, rfl⟩
            · rw [iF x2, iF x2]
              by_cases x3 : x = 3
              · rw [iT x3, iT x3, cc_angle v.toRelN h.1 h.2, rd_e h.1 (by omega)]; exact ⟨_, rfl, rfl⟩
              · rw [iF x3, iF x3, cc_fire v.toRelN h.1 h.2, rd_e h.1 (by omega), rd_e h.1 (by omega)]; simp (disch := decide) only [put_ne, bnd_e]; rw [rd_e hti.1 (by omega)]; simp (disch := decide) only [put_ne]; rw [ck_e (by omega) (by omega)]
                exact ⟨_, rfl, rfl⟩
      obtain ⟨w, w1, w2⟩ := main
      exact ⟨w, _, w2, Rel_38 R, .inl ⟨w1, put_T rfl⟩⟩
    · rw [bi_F h]; (try simp only [bnd_e, one0, two0, if_false, ↓reduceIte])
      refine ⟨0, put τ 0 38 2, ?_, Rel_38 R, .inr ⟨2, by omega, rfl, put_T rfl⟩⟩
      unfold fX12_cue_P27; rw [st1_e, put_T rfl, iF (by decide)]
  · rw [bi_F hx]; (try simp only [bnd_e, one0, two0, if_false, ↓reduceIte])
    refine ⟨0, put τ 0 38 1, ?_, Rel_38 R, .inr ⟨1, by omega, ?_, put_T rfl⟩⟩
    · unfold fX12_cue_P27; rw [st1_e, put_T rfl, iF (by decide)]
    · by_cases h0 : x < 0
      · rw [iT h0]; rfl
      · rw [iF h0, iF (show ¬ x ≤ 4 by omega)]; rfl
end

section
set_option linter.unusedVariables false
variable {σ τ : Sg} {V : Vw} {N : Int}
def strV (b f p q : Int) : Int := if b < f then b else f + (b - f) * p / q
theorem mul_rng {a p : Int} (ha : 0 ≤ a ∧ a ≤ 20000) (hp : 1 ≤ p ∧ p ≤ 100) : 0 ≤ a * p ∧ a * p ≤ 2000000 := by
  constructor
  · exact Int.mul_nonneg ha.1 (by omega)
  · calc a * p ≤ 20000 * p := Int.mul_le_mul_of_nonneg_right ha.2 (by omega)
      _ ≤ 2000000 := by omega
theorem div_rng {x q : Int} (hx : 0 ≤ x) (hq : 1 ≤ q) : 0 ≤ x / q ∧ x / q ≤ x := ⟨Int.ediv_nonneg hx (by omega), Int.ediv_le_self q hx⟩
theorem strV_rng {b f p q : Int} (hb : 0 ≤ b ∧ b ≤ 20000) (hf : 0 ≤ f ∧ f ≤ 20000) (hp : 1 ≤ p ∧ p ≤ 100) (hq : 1 ≤ q ∧ q ≤ 100) : 0 ≤ strV b f p q ∧ strV b f p q ≤ 2020000 := by
  unfold strV
  split
  · omega
  · have h1 := mul_rng (a := b - f) (by omega) hp
    have h2 := div_rng h1.1 hq.1
    omega
theorem cc_str {b f p q : Int} (hb : 0 ≤ b ∧ b ≤ 20000) (hf : 0 ≤ f ∧ f ≤ 20000) (hp : 1 ≤ p ∧ p ≤ 100) (hq : 1 ≤ q ∧ q ≤ 100) : fX11_stretched b f p q σ = some (strV b f p q) := by
  unfold fX11_stretched strV
  by_cases c : b < f
  · rw [iT c, iT c]
  · have h1 := mul_rng (a := b - f) (by omega) hp
    have h2 := div_rng h1.1 hq.1
    rw [iF c, iF c, ck_e (by omega) (by omega), ck_e (by omega) (by omega), fdv_e (by omega), ck_e (by omega) (by omega)]
theorem rr_str {b f p q : Int} (hb : 0 ≤ b ∧ b ≤ 20000) (hf : 0 ≤ f ∧ f ≤ 20000) (hp : 1 ≤ p ∧ p ≤ 100) (hq : 1 ≤ q ∧ q ≤ 100) : fX12_stretched b f p q τ = some (strV b f p q) := by
  unfold fX12_stretched strV
  by_cases c : b < f
  · rw [iT c, iT c]
  · have h1 := mul_rng (a := b - f) (by omega) hp
    have h2 := div_rng h1.1 hq.1
    rw [iF c, iF c, ck_e (by omega) (by omega), ck_e (by omega) (by omega), dv_e h1.1 (by omega), ck_e (by omega) (by omega)]
theorem bst_rng (R : RelN σ V) {c : Int} (h0 : 0 ≤ c) (h1 : c < V.2.2.2.2.2.1) : 0 ≤ V.2.2.1.2.2.1 c ∧ V.2.2.1.2.2.1 c ≤ 20000 := by
  have e := R.c c h0 h1; have hk := R.k (V.2.2.1.2.2.2.1 c) e.2.1.1.1 e.2.1.1.2
  omega
theorem cc_strL1 (R : RelN σ V) {f p q : Int} (hf : 0 ≤ f ∧ f ≤ 20000) (hp : 1 ≤ p ∧ p ≤ 100) (hq : 1 ≤ q ∧ q ≤ 100) : ∀ (n : Nat) (l i : Int), (0 ≤ i ∧ i ≤ V.2.2.2.2.2.1) → V.2.2.2.2.2.1 - i < (n : Int) →
    ((∃ c, (i ≤ c ∧ c < V.2.2.2.2.2.1) ∧ strV (V.2.2.1.2.2.1 c) f p q < V.1.2.1 (V.2.2.1.2.2.2.1 c)) → fX11_stretch_L41 n f p q l i σ = some (.inl ())) ∧
    ((¬ ∃ c, (i ≤ c ∧ c < V.2.2.2.2.2.1) ∧ strV (V.2.2.1.2.2.1 c) f p q < V.1.2.1 (V.2.2.1.2.2.2.1 c)) → ∃ l', fX11_stretch_L41 n f p q l i σ = some (.inr l') ∧ (l' = 0 ↔ l = 0 ∧ ∀ c, i ≤ c → c < V.2.2.2.2.2.1 → strV (V.2.2.1.2.2.1 c) f p q ≤ 20000)) := by
  have hn := R.n
  intro n
  induction n with
  | zero => intro l i _ h; omega
  | succ n ih =>
    intro l i h0 h1
    by_cases c : i < V.2.2.2.2.2.1
    · have e := R.c i h0.1 c
      have hb := bst_rng R h0.1 c
      have nxt : ∀ x, fX11_stretch_L41P115 (fX11_stretch_L41 n) f p q i x σ = fX11_stretch_L41 n f p q x (i + 1) σ := fun x => by unfold fX11_stretch_L41P115; rw [ck_e (by omega) (by omega)]
      have step : fX11_stretch_L41 (n + 1) f p q l i σ = if strV (V.2.2.1.2.2.1 i) f p q < V.1.2.1 (V.2.2.1.2.2.2.1 i) then some (.inl ()) else if l = 0 then (if strV (V.2.2.1.2.2.1 i) f p q ≤ 20000 then fX11_stretch_L41 n f p q 0 (i + 1) σ else fX11_stretch_L41 n f p q 1 (i + 1) σ) else fX11_stretch_L41 n f p q 1 (i + 1) σ := by
        conv => lhs; unfold fX11_stretch_L41
        rw [iT (by omega), cc_burst R h0.1 c]; simp only [bnd_e]
        rw [cc_str hb hf hp hq]; simp only [bnd_e]
        rw [cc_kind R h0.1 c]; simp only [bnd_e]
        rw [cc_lift R e.2.1]; simp only [bnd_e]
        unfold fX11_stretch_L41P110
        rw [nxt, nxt]
      rw [step]
      by_cases c1 : strV (V.2.2.1.2.2.1 i) f p q < V.1.2.1 (V.2.2.1.2.2.2.1 i)
      · rw [iT c1]
        exact ⟨fun _ => rfl, fun x => absurd ⟨i, by omega, c1⟩ x⟩
      · rw [iF c1]
        have ex : (∃ c, (i ≤ c ∧ c < V.2.2.2.2.2.1) ∧ strV (V.2.2.1.2.2.1 c) f p q < V.1.2.1 (V.2.2.1.2.2.2.1 c)) ↔ (∃ c, (i + 1 ≤ c ∧ c < V.2.2.2.2.2.1) ∧ strV (V.2.2.1.2.2.1 c) f p q < V.1.2.1 (V.2.2.1.2.2.2.1 c)) := by
          constructor
          · rintro ⟨d, d1, d2⟩
            refine ⟨d, ?_, d2⟩
            by_cases e : d = i
            · exact absurd (e ▸ d2) c1
            · omega
          · rintro ⟨d, d1, d2⟩; exact ⟨d, by omega, d2⟩
        have fin : ∀ x, (x = 0 ↔ l = 0 ∧ strV (V.2.2.1.2.2.1 i) f p q ≤ 20000) → ((∃ c, (i ≤ c ∧ c < V.2.2.2.2.2.1) ∧ strV (V.2.2.1.2.2.1 c) f p q < V.1.2.1 (V.2.2.1.2.2.2.1 c)) → fX11_stretch_L41 n f p q x (i + 1) σ = some (.inl ())) ∧
            ((¬ ∃ c, (i ≤ c ∧ c < V.2.2.2.2.2.1) ∧ strV (V.2.2.1.2.2.1 c) f p q < V.1.2.1 (V.2.2.1.2.2.2.1 c)) → ∃ l', fX11_stretch_L41 n f p q x (i + 1) σ = some (.inr l') ∧ (l' = 0 ↔ l = 0 ∧ ∀ c, i ≤ c → c < V.2.2.2.2.2.1 → strV (V.2.2.1.2.2.1 c) f p q ≤ 20000)) := by
          intro x hx
          obtain ⟨i1, i2⟩ := ih x (i + 1) (by omega) (by omega)
          rw [ex]
          refine ⟨i1, fun y => ?_⟩
          obtain ⟨l', z1, z2⟩ := i2 y
          refine ⟨l', z1, ?_⟩
          rw [z2, hx]
          constructor
          · rintro ⟨⟨a, b⟩, d⟩
            refine ⟨a, fun c c0 c1 => ?_⟩
            by_cases e : c = i
            · rw [e]; exact b
            · exact d c (by omega) c1
          · rintro ⟨a, b⟩
            exact ⟨⟨a, b i (by omega) c⟩, fun d d0 d1 => b d (by omega) d1⟩
        by_cases c2 : l = 0
        · rw [iT c2]
          by_cases c3 : strV (V.2.2.1.2.2.1 i) f p q ≤ 20000
          · rw [iT c3]; exact fin 0 (by omega)
          · rw [iF c3]; exact fin 1 (by omega)
        · rw [iF c2]; exact fin 1 (by omega)
    · have : fX11_stretch_L41 (n + 1) f p q l i σ = some (.inr l) := by unfold fX11_stretch_L41; rw [iF (by omega)]
      rw [this]
      refine ⟨fun ⟨c, c1, c2⟩ => by omega, fun _ => ⟨l, rfl, ?_⟩⟩
      constructor
      · intro x; exact ⟨x, fun c c0 c1 => by omega⟩
      · exact fun x => x.1
theorem raw_isCue {c : Int} (h0 : 0 ≤ c) (h1 : c < σ 19 4) (h2 : σ 19 4 ≤ 120) : fX1_isCue 19 c σ = some 1 := by unfold fX1_isCue; (try simp (disch := omega) only [↓ck_e, ↓rd_e, ↓wr_e, ↓wrB_e, ↓wrZ_e, ↓dv_e, ↓md_e, ↓fdv_e, ↓cpy_e, ↓filB_e, ↓filI_e, ↓filL_e, ↓st1_e, ↓bnd_e, ↓iT, ↓iF, ↓reduceIte, put_ne, put_T, put_F, isIn_T, isIn_F])
theorem raw_burst {c : Int} (h0 : 0 ≤ c) (h1 : c < σ 19 4) (h2 : σ 19 4 ≤ 120) : fX1_burstOf 19 c σ = some (σ 20 c) := by unfold fX1_burstOf; rw [raw_isCue h0 h1 h2]; (try simp (disch := omega) only [↓ck_e, ↓rd_e, ↓wr_e, ↓wrB_e, ↓wrZ_e, ↓dv_e, ↓md_e, ↓fdv_e, ↓cpy_e, ↓filB_e, ↓filI_e, ↓filL_e, ↓st1_e, ↓bnd_e, ↓iT, ↓iF, ↓reduceIte, put_ne, put_T, put_F, isIn_T, isIn_F])
theorem raw_setBurst {c x : Int} (h0 : 0 ≤ c) (h1 : c < σ 19 4) (h2 : σ 19 4 ≤ 120) : fX1_setBurst 19 c x σ = some (put σ 20 c x) := by unfold fX1_setBurst; rw [raw_isCue h0 h1 h2]; (try simp (disch := omega) only [↓ck_e, ↓rd_e, ↓wr_e, ↓wrB_e, ↓wrZ_e, ↓dv_e, ↓md_e, ↓fdv_e, ↓cpy_e, ↓filB_e, ↓filI_e, ↓filL_e, ↓st1_e, ↓bnd_e, ↓iT, ↓iF, ↓reduceIte, put_ne, put_T, put_F, isIn_T, isIn_F])
theorem cc_strL2 {f p q m : Int} (hf : 0 ≤ f ∧ f ≤ 20000) (hp : 1 ≤ p ∧ p ≤ 100) (hq : 1 ≤ q ∧ q ≤ 100) (hm : 0 ≤ m ∧ m ≤ 120) {b : Int → Int} (hb : ∀ c, 0 ≤ c → c < m → 0 ≤ b c ∧ b c ≤ 20000) : ∀ (n : Nat) (a i : Int) (σ : Sg), σ 19 4 = m → (0 ≤ i ∧ i ≤ m) → (0 ≤ a ∧ a ≤ i) → m - i < (n : Int) → (∀ c, i ≤ c → c < m → σ 20 c = b c) →
    ∃ σ', fX11_stretch_L137 n f p q a i σ = some (a + sumI (fun c => bi (strV (b c) f p q ≠ b c)) (m - i).toNat i, σ') ∧ (∀ j, j ≠ 20 → σ' j = σ j) ∧ (∀ c, i ≤ c → c < m → σ' 20 c = strV (b c) f p q) ∧ (∀ c, c < i → σ' 20 c = σ 20 c) := by
  intro n
  induction n with
  | zero => intro a i σ _ _ _ h; omega
  | succ n ih =>
    intro a i σ h19 h0 ha h1 H
    by_cases c : i < m
    · have hbi := hb i h0.1 c
      have hH := H i (by omega) c
      rw [show (m - i).toNat = (m - (i + 1)).toNat + 1 by omega]
      unfold sumI fX11_stretch_L137
      rw [iT (by omega), raw_burst h0.1 (by omega) (by omega), hH]; simp only [bnd_e]
      rw [cc_str hbi hf hp hq]; simp only [bnd_e]
      by_cases e : strV (b i) f p q = b i
      · rw [iT e]
        rw [bi_F (fun x => x e)]
        obtain ⟨σ', a1, a2, a3, a4⟩ := ih a (i + 1) σ h19 (by omega) (by omega) (by omega) (fun d d0 d1 => H d (by omega) d1)
        refine ⟨σ', ?_, a2, ?_, fun d hd => a4 d (by omega)⟩
        · unfold fX11_stretch_L137P194; rw [ck_e (by omega) (by omega), a1, show a + (0 + sumI (fun c => bi (strV (b c) f p q ≠ b c)) (m - (i + 1)).toNat (i + 1)) = a + sumI (fun c => bi (strV (b c) f p q ≠ b c)) (m - (i + 1)).toNat (i + 1) by omega]
        · intro d d0 d1
          by_cases e2 : d = i
          · rw [a4 d (by omega), e2, hH, e]
          · exact a3 d (by omega) d1
      · rw [iF e, raw_setBurst h0.1 (by omega) (by omega)]; simp only [bnd_e]
        rw [ck_e (by omega) (by omega), bi_T e]
        obtain ⟨σ', a1, a2, a3, a4⟩ := ih (a + 1) (i + 1) (put σ 20 i (strV (b i) f p q)) (by rw [put_ne (by decide)]; exact h19) (by omega) (by omega) (by omega) (fun d d0 d1 => by rw [put_F (by omega)]; exact H d (by omega) d1)
        refine ⟨σ', ?_, fun j hj => by rw [a2 j hj, put_ne hj], ?_, fun d hd => by rw [a4 d (by omega), put_F (by omega)]⟩
        · unfold fX11_stretch_L137P194; rw [ck_e (by omega) (by omega), a1, show a + 1 + sumI (fun c => bi (strV (b c) f p q ≠ b c)) (m - (i + 1)).toNat (i + 1) = a + (1 + sumI (fun c => bi (strV (b c) f p q ≠ b c)) (m - (i + 1)).toNat (i + 1)) by omega]
        · intro d d0 d1
          by_cases e2 : d = i
          · rw [a4 d (by omega), e2, put_T rfl]
          · exact a3 d (by omega) d1
    · refine ⟨σ, ?_, fun _ _ => rfl, fun d d0 d1 => by omega, fun _ _ => rfl⟩
      rw [show (m - i).toNat = 0 by omega]
      unfold sumI fX11_stretch_L137
      rw [iF (by omega), show a + 0 = a by omega]
theorem rr_strL3 {f p q m : Int} (hf : 0 ≤ f ∧ f ≤ 20000) (hp : 1 ≤ p ∧ p ≤ 100) (hq : 1 ≤ q ∧ q ≤ 100) (hm : 0 ≤ m ∧ m ≤ 120) {b : Int → Int} (hb : ∀ c, 0 ≤ c → c < m → 0 ≤ b c ∧ b c ≤ 20000) : ∀ (n : Nat) (a i : Int) (τ : Sg), τ 0 32 = m → (0 ≤ i ∧ i ≤ m) → (0 ≤ a ∧ a ≤ i) → m - i < (n : Int) → (∀ c, i ≤ c → c < m → τ 13 c = b c) →
    ∃ τ', fX12_stretch_L133 n f p q a i τ = some (a + sumI (fun c => bi (strV (b c) f p q ≠ b c)) (m - i).toNat i, τ') ∧ (∀ j, j ≠ 13 → τ' j = τ j) ∧ (∀ c, i ≤ c → c < m → τ' 13 c = strV (b c) f p q) ∧ (∀ c, c < i → τ' 13 c = τ 13 c) := by
  intro n
  induction n with
  | zero => intro a i τ _ _ _ h; omega
  | succ n ih =>
    intro a i τ h19 h0 ha h1 H
    by_cases c : i < m
    · have hbi := hb i h0.1 c
      have hH := H i (by omega) c
      rw [show (m - i).toNat = (m - (i + 1)).toNat + 1 by omega]
      unfold sumI fX12_stretch_L133
      rw [iT (by omega), rd_e h0.1 (by omega), hH, rr_str hbi hf hp hq]; simp only [bnd_e]
      rw [rd_e h0.1 (by omega), hH]
      have fin : ∀ x, (0 ≤ x ∧ x ≤ 1) → x = bi (strV (b i) f p q ≠ b i) → ∃ τ', fX12_stretch_L133P176 (fX12_stretch_L133 n) f p q i (strV (b i) f p q) x a τ = some (a + (bi (strV (b i) f p q ≠ b i) + sumI (fun c => bi (strV (b c) f p q ≠ b c)) (m - (i + 1)).toNat (i + 1)), τ') ∧ (∀ j, j ≠ 13 → τ' j = τ j) ∧ (∀ c, i ≤ c → c < m → τ' 13 c = strV (b c) f p q) ∧ (∀ c, c < i → τ' 13 c = τ 13 c) := by
        intro x hx0 hx
        rw [← hx]
        obtain ⟨τ', a1, a2, a3, a4⟩ := ih (a + x) (i + 1) (put τ 13 i (strV (b i) f p q)) (by rw [put_ne (by decide)]; exact h19) (by omega) (by omega) (by omega) (fun d d0 d1 => by rw [put_F (by omega)]; exact H d (by omega) d1)
        refine ⟨τ', ?_, fun j hj => by rw [a2 j hj, put_ne hj], ?_, fun d hd => by rw [a4 d (by omega), put_F (by omega)]⟩
        · unfold fX12_stretch_L133P176; rw [ck_e (by omega) (by omega), wr_e h0.1 (by omega), ck_e (by omega) (by omega), a1, show a + x + sumI (fun c => bi (strV (b c) f p q ≠ b c)) (m - (i + 1)).toNat (i + 1) = a + (x + sumI (fun c => bi (strV (b c) f p q ≠ b c)) (m - (i + 1)).toNat (i + 1)) by omega]
        · intro d d0 d1
          by_cases e2 : d = i
          · rw [a4 d (by omega), e2, put_T rfl]
          · exact a3 d (by omega) d1
      by_cases e : strV (b i) f p q = b i
      · rw [iT e]; exact fin 0 (by omega) (by rw [bi_F (fun x => x e)])
      · rw [iF e]; exact fin 1 (by omega) (by rw [bi_T e])
    · refine ⟨τ, ?_, fun _ _ => rfl, fun d d0 d1 => by omega, fun _ _ => rfl⟩
      rw [show (m - i).toNat = 0 by omega]
      unfold sumI fX12_stretch_L133
      rw [iF (by omega), show a + 0 = a by omega]
theorem m_stretch (f p q : Int) : Mt (fX11_stretch f p q) (fX12_stretch f p q) := by
  intro N σ τ R hN
  have v := R.v
  have hn := v.n
  have hn' := hn
  dsimp only [vw] at hn'
  unfold fX11_stretch fX12_stretch
  rw [st1_e, isIn_b]; simp only [bnd_e]
  by_cases hf : 0 ≤ f ∧ f ≤ 20000
  · rw [bi_T hf, iF (show ¬ f < 0 by omega), iT hf.2]; (try simp only [bnd_e, one0, two0, if_false, ↓reduceIte])
    rw [isIn_b]; simp only [bnd_e]
    by_cases hp : 1 ≤ p ∧ p ≤ 100
    · rw [bi_T hp, iF (show ¬ p < 1 by omega), iT hp.2]; (try simp only [bnd_e, one0, two0, if_false, ↓reduceIte])
      rw [isIn_b]; simp only [bnd_e]
      by_cases hq : 1 ≤ q ∧ q ≤ 100
      · rw [bi_T hq, iF (show ¬ q < 1 by omega), iT hq.2]; (try simp only [bnd_e, one0, two0, if_false, ↓reduceIte])
        obtain ⟨s1, s2⟩ := cc_strL1 v.toRelN hf hp hq fu 0 0 (by omega) (by rw [fu_i]; omega)
        have bR : ∀ c, 0 ≤ c → c < τ 0 32 → 0 ≤ τ 13 c ∧ τ 13 c ≤ 20000 := fun c h0 h1 => bst_rng v.toRelN h0 h1
        have r1 := srch (L := fun n i => fX12_stretch_L41 n f p q i (put τ 0 54 0)) (lo := 0) (m := τ 0 32) (P := fun c => strV (τ 13 c) f p q < τ 2 (τ 14 c)) (a := some (.inl ())) (b := some (.inr ()))
          (fun n i a1 a2 a3 => by
            have ht := (v.c i a1 a2).2.1.1
            dsimp only [vw] at ht
            unfold fX12_stretch_L41
            rw [put_F (by decide), iT a2, rd_e a1 (by omega), put_ne (by decide), rr_str (bR i a1 a2) hf hp hq]; simp only [bnd_e]
            rw [rd_e a1 (by omega), put_ne (by decide), rd_e ht.1 (by omega), put_ne (by decide), iT a3])
          (fun n i a1 a2 a3 => by
            have ht := (v.c i a1 a2).2.1.1
            dsimp only [vw] at ht
            conv => lhs; unfold fX12_stretch_L41
            rw [put_F (by decide), iT a2, rd_e a1 (by omega), put_ne (by decide), rr_str (bR i a1 a2) hf hp hq]; simp only [bnd_e]
            rw [rd_e a1 (by omega), put_ne (by decide), rd_e ht.1 (by omega), put_ne (by decide), iF a3, ck_e (by omega) (by omega)])
          (fun n i a1 a2 => by unfold fX12_stretch_L41; rw [put_F (by decide), iF (by omega)]) fu 0 (by omega) (by rw [fu_i]; omega) fu_pos
        have r2 := srch (L := fun n i => fX12_stretch_L90 n f p q i (put τ 0 54 0)) (lo := 0) (m := τ 0 32) (P := fun c => ¬ strV (τ 13 c) f p q ≤ 20000) (a := some (.inl ())) (b := some (.inr ()))
          (fun n i a1 a2 a3 => by
            unfold fX12_stretch_L90
            rw [put_F (by decide), iT a2, rd_e a1 (by omega), put_ne (by decide), rr_str (bR i a1 a2) hf hp hq]; simp only [bnd_e]
            rw [iF a3])
          (fun n i a1 a2 a3 => by
            conv => lhs; unfold fX12_stretch_L90
            rw [put_F (by decide), iT a2, rd_e a1 (by omega), put_ne (by decide), rr_str (bR i a1 a2) hf hp hq]; simp only [bnd_e]
            rw [iT (by omega), ck_e (by omega) (by omega)])
          (fun n i a1 a2 => by unfold fX12_stretch_L90; rw [put_F (by decide), iF (by omega)]) fu 0 (by omega) (by rw [fu_i]; omega) fu_pos
        by_cases early : ∃ c, (0 ≤ c ∧ c < τ 0 32) ∧ strV (τ 13 c) f p q < τ 2 (τ 14 c)
        · rw [s1 early, r1.1 (by obtain ⟨c, c1, c2⟩ := early; exact ⟨c, c1.1, c1.2, c2⟩)]
          exact no_54 R
        · obtain ⟨l', l1, l2⟩ := s2 early
          rw [l1, r1.2 (by rintro ⟨c, c1, c2, c3⟩; exact early ⟨c, ⟨c1, c2⟩, c3⟩)]
          simp only [bnd_e, Sum.elim_inr]
          by_cases late : ∃ c, 0 ≤ c ∧ c < τ 0 32 ∧ ¬ strV (τ 13 c) f p q ≤ 20000
          · rw [r2.1 late, iF (by
              intro x
              obtain ⟨c, c1, c2, c3⟩ := late
              exact c3 ((l2.1 x).2 c c1 c2))]
            exact no_54 R
          · have late' : ∀ c, 0 ≤ c → c < τ 0 32 → strV (τ 13 c) f p q ≤ 20000 := fun c c0 c1 => Classical.byContradiction (fun x => late ⟨c, c0, c1, x⟩)
            have early' : ∀ c, 0 ≤ c → c < τ 0 32 → τ 2 (τ 14 c) ≤ strV (τ 13 c) f p q := fun c c0 c1 => Int.not_lt.mp (fun x => early ⟨c, ⟨c0, c1⟩, x⟩)
            rw [r2.2 late, iT (l2.2 ⟨rfl, late'⟩)]
            simp only [bnd_e, Sum.elim_inr]
            obtain ⟨σ', a1, a2, a3, a4⟩ := cc_strL2 hf hp hq (m := τ 0 32) (by omega) (b := τ 13) bR fu 0 0 σ hn'.1 (by omega) (by omega) (by rw [fu_i]; omega) (fun c c0 c1 => (v.c c c0 c1).1.1)
            obtain ⟨τ', b1, b2, b3, b4⟩ := rr_strL3 hf hp hq (m := τ 0 32) (by omega) (b := τ 13) bR fu 0 0 (put τ 0 54 0) (put_F (by decide)) (by omega) (by omega) (by rw [fu_i]; omega) (fun c c0 c1 => by rw [put_ne (by decide)])
            rw [a1, b1]; simp only [bnd_e]
            refine ⟨_, _, _, rfl, rfl, ?_⟩
            have e0 : ∀ x, x ≠ 54 → τ' 0 x = τ 0 x := fun x hx => by rw [b2 0 (by decide), put_F hx]
            have ej : ∀ j, j ≠ 0 → j ≠ 13 → τ' j = τ j := fun j j0 j1 => by rw [b2 j j1, put_ne j0]
            have hvw : vw τ' = ((τ 1, τ 2, τ 3, τ 4, τ 5), (τ 6, τ 7, τ 8, τ 9, τ 10), (τ 11, τ 12, τ' 13, τ 14, τ 15), (τ 16, τ 17, τ 22, τ 23, τ 24), (τ 25, τ 0 32, τ 0 33, τ 0 34, τ 0 35)) := by
              unfold vw
              simp only [ej 1 (by decide) (by decide), ej 2 (by decide) (by decide), ej 3 (by decide) (by decide), ej 4 (by decide) (by decide), ej 5 (by decide) (by decide), ej 6 (by decide) (by decide), ej 7 (by decide) (by decide), ej 8 (by decide) (by decide), ej 9 (by decide) (by decide), ej 10 (by decide) (by decide), ej 11 (by decide) (by decide), ej 12 (by decide) (by decide), ej 14 (by decide) (by decide), ej 15 (by decide) (by decide), ej 16 (by decide) (by decide), ej 17 (by decide) (by decide), ej 22 (by decide) (by decide), ej 23 (by decide) (by decide), ej 24 (by decide) (by decide), ej 25 (by decide) (by decide), e0 32 (by decide), e0 33 (by decide), e0 34 (by decide), e0 35 (by decide)]
            have vs : RelV (setA σ 20 (σ' 20)) ((τ 1, τ 2, τ 3, τ 4, τ 5), (τ 6, τ 7, τ 8, τ 9, τ 10), (τ 11, τ 12, τ' 13, τ 14, τ 15), (τ 16, τ 17, τ 22, τ 23, τ 24), (τ 25, τ 0 32, τ 0 33, τ 0 34, τ 0 35)) := (RelV.all (g := v.g) (k := v.k) (b := v.b) (d := v.d) (n := v.n) (c := fun i h0 h1 => by
                obtain ⟨x1, x2, x3, x4, x5, x6⟩ := v.c i h0 h1
                refine ⟨⟨?_, x1.2⟩, x2, x3, x4, ?_, x6⟩
                · rw [setA_at]; show σ' 20 i = τ' 13 i; rw [a3 i h0 h1, b3 i h0 h1]
                · show τ 2 (τ 14 i) ≤ τ' 13 i ∧ τ' 13 i ≤ 20000
                  rw [b3 i h0 h1]; exact ⟨early' i h0 h1, late' i h0 h1⟩) (m := v.m) (r := v.r) (h := v.h) (f := fun k w t a b => v.f k w t a b))
            refine Rel.up (Rel_view R ?_ (fun j hj => a2 j (by omega)) (by rw [a2 0 (by decide)]) (by rw [a2 0 (by decide)]) (fun j h1 h2 => ej j (by omega) (by omega)) (e0 31 (by decide)) (e0 36 (by decide)) (e0 37 (by decide)) (.inl (by rw [b2 0 (by decide), put_T rfl])))
            rw [hvw]
            refine RelV_congr vs (fun j hj => ?_)
            by_cases e : j = 20
            · rw [e, setA_at]
            · rw [setA_ne e, a2 j e]
      · rw [bi_F hq]
        by_cases h0 : q < 1
        · rw [iT h0]; exact no_54 R
        · rw [iF h0, iF (show ¬ q ≤ 100 by omega)]; exact no_54 R
    · rw [bi_F hp]
      by_cases h0 : p < 1
      · rw [iT h0]; exact no_54 R
      · rw [iF h0, iF (show ¬ p ≤ 100 by omega)]; exact no_54 R
  · rw [bi_F hf]
    by_cases h0 : f < 0
    · rw [iT h0]; exact no_54 R
    · rw [iF h0, iF (show ¬ f ≤ 20000 by omega)]; exact no_54 R
end

section
set_option linter.unusedVariables false
variable {σ τ : Sg} {V : Vw} {N : Int}
theorem tp_ne {d e : Int} (hd : 0 ≤ d) (he : 0 ≤ e) (h : e ≠ d) {i : Nat} (hi : i < 7) : ¬ (tpO d ≤ tpO e + i ∧ tpO e + i < tpO d + 7) := by unfold tpO; omega
theorem Rel_tape {σ' τ' : Sg} (R : Rel N σ τ) {d : Int} (hd : 0 ≤ d ∧ d < 6) (hσ : ∀ j, ¬ (tpO d ≤ j ∧ j < tpO d + 7) → σ' j = σ j)
    (hτ : ∀ j, j ≠ 28 → j ≠ 29 → j ≠ 30 → j ≠ 31 → τ' j = τ j) (h28 : ∀ e, e ≠ d → τ' 28 e = τ 28 e ∧ τ' 29 e = τ 29 e)
    (h31 : ∀ k, ¬ (100 * d ≤ k ∧ k < 100 * d + 100) → τ' 31 k = τ 31 k) (h30 : ∀ k, ¬ (480 * d ≤ k ∧ k < 480 * d + 480) → τ' 30 k = τ 30 k) (hT : RelTd σ' τ' d) : Rel N σ' τ' := by
  have hlo : ∀ j, j < 59 → σ' j = σ j := fun j hj => hσ j (by have := tpO_ge (d := d); omega)
  have hv : vw τ' = vw τ := vw_congr (fun j hj => hτ j (ne_of_mem hj (by decide)) (ne_of_mem hj (by decide)) (ne_of_mem hj (by decide)) (ne_of_mem hj (by decide))) (by rw [hτ 0 (by decide) (by decide) (by decide) (by decide)]) (by rw [hτ 0 (by decide) (by decide) (by decide) (by decide)]) (by rw [hτ 0 (by decide) (by decide) (by decide) (by decide)]) (by rw [hτ 0 (by decide) (by decide) (by decide) (by decide)])
  have e0 : τ' 0 = τ 0 := hτ 0 (by decide) (by decide) (by decide) (by decide)
  refine Rel.mk ?_ ?_ ?_ ?_ ?_ ?_
  · rw [hv]; exact RelV_congr R.v (fun j hj => hlo j (by simp only [List.mem_cons, List.not_mem_nil, or_false] at hj; omega))
  · rw [hlo 0 (by omega), e0]; exact R.gap
  · rw [hlo 0 (by omega), e0]; exact R.ref
  · rw [hlo 54 (by omega), hlo 55 (by omega), hlo 56 (by omega), e0, hτ 26 (by decide) (by decide) (by decide) (by decide), hτ 27 (by decide) (by decide) (by decide) (by decide)]; exact R.seen
  · intro e e0 e1
    by_cases h : e = d
    · rw [h]; exact hT
    · have T := R.tape e e0 e1
      have q : ∀ i, i < 7 → σ' (tpO e + i) = σ (tpO e + i) := fun i hi => hσ _ (tp_ne hd.1 e0 h hi)
      have q0 : σ' (tpO e) = σ (tpO e) := q 0 (by omega)
      obtain ⟨x28, x29⟩ := h28 e h
      unfold RelTd
      rw [q0, q 1 (by omega), q 2 (by omega), q 3 (by omega), q 4 (by omega), q 5 (by omega), q 6 (by omega), x28, x29]
      exact (RelT.mk (so := T.so) (row := fun i i0 i1 => by rw [h31 _ (by omega)]; exact T.row i i0 i1) (le := T.le) (by' := fun s i i0 i1 => by rw [h31 _ (by omega)]; exact T.by' s i i0 i1) (n := T.n) (c := fun s c c0 c1 => by
          have := T.n s
          rw [h30 _ (by omega), h30 _ (by omega), h30 _ (by omega), h30 _ (by omega)]; exact T.c s c c0 c1))
  · rcases R.play with h | ⟨h1, h2⟩
    · exact .inl (by rw [e0]; exact h)
    · right; rw [e0, hv, hτ 40 (by decide) (by decide) (by decide) (by decide), hτ 41 (by decide) (by decide) (by decide) (by decide), hτ 42 (by decide) (by decide) (by decide) (by decide)]; exact ⟨h1, h2⟩
theorem refuse_e (R : Rel N σ τ) (hN : N ≤ 1000000) (x : Int) : fX11_refuse x σ = some (x, put σ 0 10 (σ 0 10 + 1)) ∧ fX12_host x τ = some (x, put τ 0 37 (τ 0 37 + 1)) ∧ Rel (N + 1) (put σ 0 10 (σ 0 10 + 1)) (put τ 0 37 (τ 0 37 + 1)) := by
  have h := R.ref
  refine ⟨?_, ?_, ?_⟩
  · unfold fX11_refuse; (try simp (disch := omega) only [↓ck_e, ↓rd_e, ↓wr_e, ↓wrB_e, ↓wrZ_e, ↓dv_e, ↓md_e, ↓fdv_e, ↓cpy_e, ↓filB_e, ↓filI_e, ↓filL_e, ↓st1_e, ↓bnd_e, ↓iT, ↓iF, ↓reduceIte, put_ne, put_T, put_F, isIn_T, isIn_F])
  · unfold fX12_host; (try simp (disch := omega) only [↓ck_e, ↓rd_e, ↓wr_e, ↓wrB_e, ↓wrZ_e, ↓dv_e, ↓md_e, ↓fdv_e, ↓cpy_e, ↓filB_e, ↓filI_e, ↓filL_e, ↓st1_e, ↓bnd_e, ↓iT, ↓iF, ↓reduceIte, put_ne, put_T, put_F, isIn_T, isIn_F])
  · exact (Rel.mk (v := RelV_congr R.v (fun j hj => put_ne (ne_of_mem hj (by decide)))) (gap := by rw [put_F (by decide), put_F (by decide)]; exact R.gap) (ref := by rw [put_T rfl, put_T rfl]; omega) (seen := by rw [put_ne (by decide), put_ne (by decide), put_ne (by decide), put_F (by decide)]; exact R.seen) (tape := tape_congr R.tape (fun j h => put_ne (by omega)) (fun j h _ => put_ne (by omega))) (play := by
        rcases R.play with h | ⟨h1, h2⟩
        · exact .inl (by rw [put_F (by decide)]; exact h)
        · exact .inr ⟨by rw [put_F (by decide)]; exact h1, h2⟩))
theorem refuse_m (R : Rel N σ τ) (hN : N ≤ 1000000) (x : Int) : ∃ v σ' τ', ((fX11_refuse x σ).bind fun q => some (q.1, q.2)) = some (v, σ') ∧ ((fX12_host x τ).bind fun q => some (q.1, q.2)) = some (v, τ') ∧ Rel (N + 1) σ' τ' := by
  obtain ⟨a, b, c⟩ := refuse_e R hN x
  rw [a, b]; exact ⟨_, _, _, rfl, rfl, c⟩
theorem isTape_b {d : Int} : fX12_isTape d τ = some (bi (0 ≤ d ∧ d ≤ 5)) := by unfold fX12_isTape; rw [isIn_b]; rfl
theorem no_chR {f : Int} (R : Rel N σ τ) : ∃ v σ' τ', some (f, σ) = some (v, σ') ∧ some (f, τ) = some (v, τ') ∧ Rel N σ' τ' := ⟨f, σ, _, rfl, rfl, R⟩
theorem m_clear (d : Int) : Mt (fX11_clear d) (fX12_clear d) := by
  intro N σ τ R hN
  unfold fX11_clear fX12_clear
  rw [isTape_b]; simp only [bnd_e]
  by_cases h : 0 ≤ d ∧ d < 6
  · rw [iT h, bi_T (show 0 ≤ d ∧ d ≤ 5 by omega)]; (try simp only [bnd_e, one0, two0, if_false, ↓reduceIte])
    have T := R.tape d h.1 h.2
    rw [st1_e, rd_e h.1 (by omega), wr_e h.1 (by omega), wr_e h.1 (by omega)]
    refine ⟨_, _, _, rfl, by rw [T.so.1], ?_⟩
    refine Rel.up (Rel_tape R h (fun j hj => put_ne (by omega)) (fun j j28 j29 _ _ => by rw [put_ne j29, put_ne j28]) (fun e he => by (simp (disch := decide) only [put_ne, put_at, vw]); rw [iF he, iF he]; exact ⟨rfl, rfl⟩) (fun k _ => by (simp (disch := decide) only [put_ne, put_at, vw])) (fun k _ => by (simp (disch := decide) only [put_ne, put_at, vw])) ?_)
    unfold RelTd
    rw [put_T rfl, put_F (show (1 : Int) ≠ 0 by decide), put_ne (by omega), put_ne (by omega), put_ne (by omega), put_ne (by omega), put_ne (by omega), put_ne (by omega)]
    (simp (disch := decide) only [put_ne, put_at, vw])
    simp only [if_true]
    exact (RelT.mk (so := by omega) (row := T.row) (le := fun x => by omega) (by' := fun x => by omega) (n := fun x => by omega) (c := fun x => by omega))
  · rw [iF h, bi_F (show ¬ (0 ≤ d ∧ d ≤ 5) by omega)]; exact no_ch R
theorem hasPlace_e {t : Nat} {i : Int} : fX9_hasPlace t i σ = some (bi ((0 ≤ i ∧ i < σ t 1) ∧ i < 100)) := by
  unfold fX9_hasPlace
  by_cases h0 : i < 0
  · rw [iT h0, bi_F (by omega)]
  · rw [iF h0]
    by_cases h1 : i < σ t 1
    · rw [iT h1]
      by_cases h2 : i < 100
      · rw [iT h2, bi_T (by omega)]
      · rw [iF h2, bi_F (by omega)]
    · rw [iF h1, bi_F (by omega)]
theorem isRow_e {t : Nat} : fX9_isRow t σ = some (bi (1 ≤ σ t 0 ∧ σ t 0 ≤ 4)) := by
  unfold fX9_isRow
  by_cases h0 : σ t 0 < 1
  · rw [iT h0, bi_F (by omega)]
  · rw [iF h0]
    by_cases h1 : σ t 0 ≤ 4
    · rw [iT h1, bi_T (by omega)]
    · rw [iF h1, bi_F (by omega)]
def narV (s v : Int) : Int := if s = 1 then toB (toI v) else if s = 2 then toS (toI v) else if s = 3 then toI v else v
theorem toB_rng (x : Int) : -128 ≤ toB x ∧ toB x ≤ 127 := by
  unfold toB
  rw [Int8.toInt_toInt32]
  exact ⟨Int8.le_toInt _, by have := Int8.toInt_lt (Int32.ofInt x).toInt8; omega⟩
theorem m_put (d i v : Int) : Mt (fX11_put d i v) (fX12_put d i v) := by
  intro N σ τ R hN
  unfold fX11_put fX12_put
  rw [isTape_b]; simp only [bnd_e]
  by_cases h : 0 ≤ d ∧ d < 6
  · rw [iT h, bi_T (show 0 ≤ d ∧ d ≤ 5 by omega)]; (try simp only [bnd_e, one0, two0, if_false, ↓reduceIte])
    have T := R.tape d h.1 h.2
    have so := T.so
    rw [rd_e h.1 (by omega), so.1]
    by_cases c0 : τ 28 d = 0
    · rw [iT c0, iT c0]; exact refuse_m R hN _
    · rw [iF c0, iF c0, isRow_e, rd_e h.1 (by omega), so.1]; simp only [bnd_e]
      by_cases c5 : τ 28 d = 5
      · rw [iT c5, bi_F (by omega), iT rfl]; exact refuse_m R hN _
      · have le := T.le (by omega) (by omega)
        rw [iF c5, bi_T (by omega), hasPlace_e, rd_e h.1 (by omega), ck_e (by omega) (by omega), isIn_b]; (try simp only [bnd_e, one0, two0, if_false, ↓reduceIte])
        by_cases cp : 0 ≤ i ∧ i < τ 29 d
        · rw [bi_T (show (0 ≤ i ∧ i < σ (tpO d) 1) ∧ i < 100 by omega), bi_T (show 0 ≤ i ∧ i ≤ τ 29 d - 1 by omega)]; (try simp only [bnd_e, one0, two0, if_false, ↓reduceIte])
          have nC : fX9_narrowed (tpO d) v σ = some (narV (τ 28 d) v) := by
            unfold fX9_narrowed narV; rw [so.1]
            split
            · rfl
            split
            · rfl
            split <;> rfl
          have nR : fX12_narrow (τ 28 d) v τ = some (narV (τ 28 d) v) := by
            unfold fX12_narrow narV
            split
            · rfl
            split
            · rfl
            split <;> rfl
          have sv : fX9_setValue (tpO d) i v σ = some (put σ (tpO d + 1) i (narV (τ 28 d) v)) := by
            unfold fX9_setValue; rw [hasPlace_e, bi_T (by omega)]; (try simp only [bnd_e, one0, two0, if_false, ↓reduceIte])
            rw [nC]; simp only [bnd_e]; rw [wr_e (by omega) (by omega)]
          rw [sv, ck_e (by omega) (by omega), ck_e (by omega) (by omega), rd_e h.1 (by omega), nR]; simp only [bnd_e]
          rw [wr_e (by omega) (by omega)]
          refine ⟨_, _, _, rfl, rfl, ?_⟩
          refine Rel.up (Rel_tape R h (fun j hj => put_ne (by omega)) (fun j _ _ _ j31 => put_ne j31) (fun e he => ⟨by rw [put_ne (by decide)], by rw [put_ne (by decide)]⟩) (fun k hk => by rw [put_F (by omega)]) (fun k _ => by (simp (disch := decide) only [put_ne, put_at, vw])) ?_)
          unfold RelTd
          rw [put_ne (show tpO d ≠ tpO d + 1 by omega), put_ne (show tpO d + 2 ≠ tpO d + 1 by omega), put_ne (show tpO d + 3 ≠ tpO d + 1 by omega), put_ne (show tpO d + 4 ≠ tpO d + 1 by omega), put_ne (show tpO d + 5 ≠ tpO d + 1 by omega), put_ne (show tpO d + 6 ≠ tpO d + 1 by omega), put_ne (show 28 ≠ 31 by decide), put_ne (show 29 ≠ 31 by decide), put_ne (show 30 ≠ 31 by decide)]
          exact (RelT.mk (so := T.so) (row := fun k k0 k1 => by
              by_cases e : k = i
              · rw [put_T e, put_T (by omega)]
              · rw [put_F e, put_F (by omega)]; exact T.row k k0 k1) (le := T.le) (by' := fun s k k0 k1 => by
              by_cases e : k = i
              · rw [put_T (by omega)]; unfold narV; rw [iT s]; exact toB_rng _
              · rw [put_F (by omega)]; exact T.by' s k k0 k1) (n := T.n) (c := T.c))
        · rw [bi_F (show ¬ ((0 ≤ i ∧ i < σ (tpO d) 1) ∧ i < 100) by omega), bi_F (show ¬ (0 ≤ i ∧ i ≤ τ 29 d - 1) by omega)]; (try simp only [bnd_e, one0, two0, if_false, ↓reduceIte]); exact refuse_m R hN _
  · rw [iF h, bi_F (show ¬ (0 ≤ d ∧ d ≤ 5) by omega)]; exact no_ch R
theorem m_at (d i : Int) : Mc (fX11_at d i) (fX11_atT d i) (fX12_at d i) := by
  intro N σ τ R
  unfold fX11_at fX11_atT fX12_at
  rw [st1_e, isTape_b]; simp only [bnd_e]
  have bad : ∀ {x : Int}, fX12_at_P55 d i (put τ 0 38 0) = some (0, put (put τ 0 38 0) 0 38 2) := by
    intro x
    unfold fX12_at_P55 fX12_at_P60; rw [st1_e, put_T rfl, iF (by decide)]
  have R2 : Rel N σ (put (put τ 0 38 0) 0 38 2) := Rel_38 (Rel_38 R)
  by_cases h : 0 ≤ d ∧ d < 6
  · rw [iT h, iT h, bi_T (show 0 ≤ d ∧ d ≤ 5 by omega)]; (try simp only [bnd_e, one0, two0, if_false, ↓reduceIte])
    have T := R.tape d h.1 h.2
    have so := T.so
    rw [isRow_e, so.1, rd_e h.1 (by omega), put_ne (by decide)]; simp only [bnd_e]
    by_cases c0 : τ 28 d = 0
    · rw [bi_F (by omega), iT c0]
      exact ⟨_, _, bad (x := 0), R2, .inr ⟨2, by omega, rfl, put_T rfl⟩⟩
    · rw [iF c0, rd_e h.1 (by omega), put_ne (by decide)]
      by_cases c5 : τ 28 d = 5
      · rw [bi_F (by omega), iT c5]
        exact ⟨_, _, bad (x := 0), R2, .inr ⟨2, by omega, rfl, put_T rfl⟩⟩
      · have le := T.le (by omega) (by omega)
        rw [iF c5, bi_T (by omega), hasPlace_e, rd_e h.1 (by omega), put_ne (by decide), ck_e (by omega) (by omega), isIn_b]; (try simp only [bnd_e, one0, two0, if_false, ↓reduceIte])
        by_cases cp : 0 ≤ i ∧ i < τ 29 d
        · rw [bi_T (show (0 ≤ i ∧ i < σ (tpO d) 1) ∧ i < 100 by omega), bi_T (show 0 ≤ i ∧ i ≤ τ 29 d - 1 by omega)]; (try simp only [bnd_e, one0, two0, if_false, ↓reduceIte])
          have va : fX9_valueAt (tpO d) i σ = some (τ 31 (100 * d + i)) := by
            unfold fX9_valueAt; rw [hasPlace_e, bi_T (by omega)]; (try simp only [bnd_e, one0, two0, if_false, ↓reduceIte])
            rw [rd_e (by omega) (by omega), T.row i (by omega) (by omega)]
          rw [va]; unfold fX12_at_P60; rw [put_T rfl, iT rfl, ck_e (by omega) (by omega), ck_e (by omega) (by omega), rd_e (by omega) (by omega), put_ne (by decide)]
          exact ⟨_, _, rfl, Rel_38 R, .inl ⟨rfl, put_T rfl⟩⟩
        · rw [bi_F (show ¬ ((0 ≤ i ∧ i < σ (tpO d) 1) ∧ i < 100) by omega), bi_F (show ¬ (0 ≤ i ∧ i ≤ τ 29 d - 1) by omega), iT rfl, iT rfl]
          exact ⟨_, _, bad (x := 0), R2, .inr ⟨2, by omega, rfl, put_T rfl⟩⟩
  · rw [iF h, iF h, bi_F (show ¬ (0 ≤ d ∧ d ≤ 5) by omega), iT rfl]
    refine ⟨0, put (put τ 0 38 0) 0 38 1, ?_, Rel_38 (Rel_38 R), .inr ⟨1, by omega, rfl, put_T rfl⟩⟩
    unfold fX12_at_P60; rw [st1_e, put_T rfl, iF (by decide)]
end

section
set_option linter.unusedVariables false
variable {σ τ : Sg} {V : Vw} {N : Int}
theorem rr_tapeL {d n : Int} (hd : 0 ≤ d ∧ d < 6) : ∀ (m : Nat) (x : Int) (τ : Sg), 0 ≤ x → 100 - x < (m : Int) → 0 < m → ∃ τ', fX12_tape_L52 m d n x τ = some τ' ∧ (∀ j, j ≠ 31 → τ' j = τ j) ∧ (∀ k, x ≤ k → k < 100 → τ' 31 (100 * d + k) = 0) ∧ (∀ k, ¬ (100 * d + x ≤ k ∧ k < 100 * d + 100) → τ' 31 k = τ 31 k) := by
  intro m
  induction m with
  | zero => intro x τ _ _ h; omega
  | succ m ih =>
    intro x τ h0 h1 _
    unfold fX12_tape_L52
    by_cases c : x < 100
    · obtain ⟨τ', a1, a2, a3, a4⟩ := ih (x + 1) (put τ 31 (100 * d + x) 0) (by omega) (by omega) (by omega)
      refine ⟨τ', ?_, fun j hj => by rw [a2 j hj, put_ne hj], ?_, ?_⟩
      · rw [iT c, ck_e (by omega) (by omega), ck_e (by omega) (by omega), wr_e (by omega) (by omega), ck_e (by omega) (by omega), a1]
      · intro k k0 k1
        by_cases e : k = x
        · rw [a4 _ (by omega), e, put_T rfl]
        · exact a3 k (by omega) k1
      · intro k hk; rw [a4 k (by omega), put_F (by omega)]
    · exact ⟨τ, by rw [iF c], fun _ _ => rfl, fun k k0 k1 => by omega, fun _ _ => rfl⟩
theorem m_tape (d s n : Int) : Mt (fX11_tape d s n) (fX12_tape d s n) := by
  intro N σ τ R hN
  unfold fX11_tape fX12_tape
  rw [isTape_b]; simp only [bnd_e]
  by_cases h : 0 ≤ d ∧ d < 6
  · rw [iT h, bi_T (show 0 ≤ d ∧ d ≤ 5 by omega)]; (try simp only [bnd_e, one0, two0, if_false, ↓reduceIte])
    rw [isIn_b]; simp only [bnd_e]
    by_cases hs : 1 ≤ s ∧ s ≤ 4
    · rw [bi_T hs, iF (show ¬ s < 1 by omega), iT hs.2]; (try simp only [bnd_e, one0, two0, if_false, ↓reduceIte])
      by_cases hn : n ≤ 100
      · rw [iT hn, iT hn]
        by_cases h0 : n < 0
        · rw [iT h0, iT h0]; exact refuse_m R hN _
        · rw [iF h0, iF h0]
          have T := R.tape d h.1 h.2
          have mk : fX9_makeRow (tpO d) s n σ = some (fillA (put (put σ (tpO d) 0 s) (tpO d) 1 n) (tpO d + 1) 100 0) := by
            unfold fX9_makeRow; rw [st1_e, st1_e, filL_e]
          obtain ⟨τ', a1, a2, a3, a4⟩ := rr_tapeL (n := n) h fu 0 (put (put τ 28 d s) 29 d n) (by omega) (by rw [fu_i]; omega) fu_pos
          rw [mk, wr_e h.1 (by omega), wr_e h.1 (by omega), a1]; simp only [bnd_e]
          refine ⟨_, _, _, rfl, rfl, ?_⟩
          refine Rel.up (Rel_tape R h (fun j hj => by rw [fillA_ne (by omega), put_ne (by omega), put_ne (by omega)]) (fun j j28 j29 _ j31 => by rw [a2 j j31, put_ne j29, put_ne j28]) (fun e he => ⟨by rw [a2 28 (by decide), put_ne (by decide), put_F he], by rw [a2 29 (by decide), put_F he, put_ne (by decide)]⟩) (fun k hk => by rw [a4 k (by omega), put_ne (by decide), put_ne (by decide)]) (fun k _ => by rw [a2 30 (by decide), put_ne (by decide), put_ne (by decide)]) ?_)
          unfold RelTd
          rw [fillA_ne (show tpO d ≠ tpO d + 1 by omega), put_F (show (0 : Int) ≠ 1 by decide), put_T rfl, put_T rfl, a2 28 (by decide), a2 29 (by decide), put_ne (show 28 ≠ 29 by decide), put_T rfl, put_T rfl]
          have z : ∀ k, 0 ≤ k → k < 100 → τ' 31 (100 * d + k) = 0 := a3
          exact (RelT.mk (so := by omega) (row := fun k k0 k1 => by rw [fillA_at, iT ⟨k0, by omega⟩, z k k0 k1]) (le := fun _ _ => by omega) (by' := fun _ k k0 k1 => by rw [z k k0 k1]; omega) (n := fun x => by omega) (c := fun x => by omega))
      · rw [iF hn, iF hn]; exact no_ch R
    · rw [bi_F hs]; (try simp only [bnd_e, one0, two0, if_false, ↓reduceIte])
      by_cases h0 : s < 1
      · rw [iT h0]; exact no_ch R
      · rw [iF h0, iF (show ¬ s ≤ 4 by omega)]; exact no_ch R
  · rw [iF h, bi_F (show ¬ (0 ≤ d ∧ d ≤ 5) by omega)]; exact no_ch R

theorem hasPlaces_e {t : Nat} {i n : Int} (h : 0 ≤ σ t 1 ∧ σ t 1 ≤ 100) : fX9_hasPlaces t i n σ = some (bi (0 ≤ i ∧ 0 ≤ n ∧ i + n ≤ σ t 1)) := by
  unfold fX9_hasPlaces
  by_cases h0 : i < 0
  · rw [iT h0, bi_F (by omega)]
  · rw [iF h0]
    by_cases h1 : n < 0
    · rw [iT h1, bi_F (by omega)]
    · rw [iF h1, iT h.2]
      by_cases h2 : n ≤ σ t 1
      · rw [iT h2, ck_e (by omega) (by omega)]
        by_cases h3 : i ≤ σ t 1 - n
        · rw [iT h3, bi_T (by omega)]
        · rw [iF h3, bi_F (by omega)]
      · rw [iF h2, bi_F (by omega)]
theorem rr_copyL {d e i j n : Int} (hd : 0 ≤ d ∧ d < 6) (he : 0 ≤ e ∧ e < 6) (hi : 0 ≤ i ∧ i + n ≤ 100) (hj : 0 ≤ j ∧ j + n ≤ 100) (hn : 0 ≤ n) {f : Int → Int} : ∀ (m : Nat) (x : Int) (τ : Sg), 0 ≤ x → x ≤ n → n - x < (m : Int) → 0 < m →
    (∀ k, τ 31 k = (if j < i then (if 100 * e + j ≤ k ∧ k < 100 * e + j + x then f (100 * d + i + (k - (100 * e + j))) else f k) else (if 100 * e + j + (n - x) ≤ k ∧ k < 100 * e + j + n then f (100 * d + i + (k - (100 * e + j))) else f k))) →
    ∃ τ', fX12_copy_L124 m d i e j n x τ = some τ' ∧ (∀ q, q ≠ 31 → τ' q = τ q) ∧ (∀ k, τ' 31 k = (if 100 * e + j ≤ k ∧ k < 100 * e + j + n then f (100 * d + i + (k - (100 * e + j))) else f k)) := by
  intro m
  induction m with
  | zero => intro x τ _ _ h; omega
  | succ m ih =>
    intro x τ h0 hx h1 _ H
    unfold fX12_copy_L124
    by_cases c : x < n
    · rw [iT c]
      by_cases c2 : j < i
      · rw [iF (by omega)]
        obtain ⟨τ', a1, a2, a3⟩ := ih (x + 1) (put τ 31 (100 * e + j + x) (τ 31 (100 * d + i + x))) (by omega) (by omega) (by omega) (by omega) (by
          intro k
          rw [iT c2]
          have Hs := H (100 * d + i + x)
          have Hk := H k
          rw [iT c2] at Hs Hk
          by_cases e1 : k = 100 * e + j + x
          · rw [put_T e1, iT (by omega), Hs]
            by_cases e2 : 100 * e + j ≤ 100 * d + i + x ∧ 100 * d + i + x < 100 * e + j + x
            · exfalso; omega
            · rw [iF e2]; congr 1; omega
          · rw [put_F e1, Hk]
            by_cases e2 : 100 * e + j ≤ k ∧ k < 100 * e + j + x
            · rw [iT e2, iT (by omega)]
            · rw [iF e2, iF (by omega)])
        refine ⟨τ', ?_, fun q hq => by rw [a2 q hq, put_ne hq], a3⟩
        unfold fX12_copy_L124P149
        rw [ck_e (by omega) (by omega), ck_e (by omega) (by omega), ck_e (by omega) (by omega), ck_e (by omega) (by omega), ck_e (by omega) (by omega), ck_e (by omega) (by omega), rd_e (by omega) (by omega), wr_e (by omega) (by omega), ck_e (by omega) (by omega)]
        exact a1
      · rw [iT (by omega), ck_e (by omega) (by omega), ck_e (by omega) (by omega)]
        obtain ⟨τ', a1, a2, a3⟩ := ih (x + 1) (put τ 31 (100 * e + j + (n - 1 - x)) (τ 31 (100 * d + i + (n - 1 - x)))) (by omega) (by omega) (by omega) (by omega) (by
          intro k
          rw [iF c2]
          have Hs := H (100 * d + i + (n - 1 - x))
          have Hk := H k
          rw [iF c2] at Hs Hk
          by_cases e1 : k = 100 * e + j + (n - 1 - x)
          · rw [put_T e1, iT (by omega), Hs]
            by_cases e2 : 100 * e + j + (n - x) ≤ 100 * d + i + (n - 1 - x) ∧ 100 * d + i + (n - 1 - x) < 100 * e + j + n
            · exfalso; omega
            · rw [iF e2]; congr 1; omega
          · rw [put_F e1, Hk]
            by_cases e2 : 100 * e + j + (n - x) ≤ k ∧ k < 100 * e + j + n
            · rw [iT e2, iT (by omega)]
            · rw [iF e2, iF (by omega)])
        refine ⟨τ', ?_, fun q hq => by rw [a2 q hq, put_ne hq], a3⟩
        unfold fX12_copy_L124P149
        rw [ck_e (by omega) (by omega), ck_e (by omega) (by omega), ck_e (by omega) (by omega), ck_e (by omega) (by omega), ck_e (by omega) (by omega), ck_e (by omega) (by omega), rd_e (by omega) (by omega), wr_e (by omega) (by omega), ck_e (by omega) (by omega)]
        exact a1
    · refine ⟨τ, by rw [iF c], fun _ _ => rfl, fun k => ?_⟩
      have Hk := H k
      rw [Hk, show x = n by omega]
      by_cases c2 : j < i
      · rw [iT c2]
      · rw [iF c2, show 100 * e + j + (n - n) = 100 * e + j by omega]
theorem m_copy {d i e j n : Int} (ri : rg i) (rj : rg j) : Mt (fX11_copy d i e j n) (fX12_copy d i e j n) := by
  intro N σ τ R hN
  unfold fX11_copy fX12_copy fX11_copy_P42 fX11_copy_P70 fX11_copy_P100 fX12_copy_P34 fX12_copy_P66 fX12_copy_P114
  rw [isTape_b]; simp only [bnd_e]
  by_cases hd : 0 ≤ d ∧ d < 6
  · rw [iT hd, bi_T (show 0 ≤ d ∧ d ≤ 5 by omega)]; (try simp only [bnd_e, one0, two0, if_false, ↓reduceIte])
    rw [isTape_b]; simp only [bnd_e]
    by_cases he : 0 ≤ e ∧ e < 6
    · rw [iT he, bi_T (show 0 ≤ e ∧ e ≤ 5 by omega)]; (try simp only [bnd_e, one0, two0, if_false, ↓reduceIte])
      have T := R.tape d hd.1 hd.2
      have U := R.tape e he.1 he.2
      have so := T.so
      have su := U.so
      rw [rd_e hd.1 (by omega), so.1]
      by_cases c0 : τ 28 d = 0
      · rw [iT c0, iT c0]; exact refuse_m R hN _
      · rw [iF c0, iF c0, rd_e he.1 (by omega), su.1]
        by_cases c1 : τ 28 e = 0
        · rw [iT c1, iT c1]; exact refuse_m R hN _
        · rw [iF c1, iF c1, isRow_e, so.1, rd_e hd.1 (by omega)]; simp only [bnd_e]
          by_cases c2 : τ 28 d = 5
          · rw [iT c2, bi_F (by omega), iT rfl]; exact refuse_m R hN _
          · rw [iF c2, bi_T (by omega), rd_e hd.1 (by omega), rd_e he.1 (by omega)]; (try simp only [bnd_e, one0, two0, if_false, ↓reduceIte])
            by_cases c3 : τ 28 d = τ 28 e
            · have le := T.le (by omega) (by omega)
              have lu := U.le (by omega) (by omega)
              rw [iT c3, iT c3, hasPlaces_e (by omega)]; simp only [bnd_e]
              by_cases p1 : 0 ≤ i ∧ 0 ≤ n ∧ i + n ≤ σ (tpO d) 1
              · rw [bi_T p1, iF (show ¬ n < 0 by omega), iF (show ¬ i < 0 by omega)]; (try simp only [bnd_e, one0, two0, if_false, ↓reduceIte])
                rw [hasPlaces_e (by omega)]; simp only [bnd_e]
                by_cases p2 : 0 ≤ j ∧ 0 ≤ n ∧ j + n ≤ σ (tpO e) 1
                · rw [bi_T p2, iF (show ¬ j < 0 by omega)]; (try simp only [bnd_e, one0, two0, if_false, ↓reduceIte])
                  rw [rd_e hd.1 (by omega), ck_e (by omega) (by omega), iT (show n ≤ τ 29 d - i by omega), rd_e he.1 (by omega), ck_e (by omega) (by omega), iT (show n ≤ τ 29 e - j by omega), cpy_e (by omega) (by omega) (by omega) (by omega) (by omega)]
                  obtain ⟨τ', a1, a2, a3⟩ := rr_copyL hd he (i := i) (j := j) (n := n) (by omega) (by omega) (by omega) (f := τ 31) fu 0 τ (by omega) (by omega) (by rw [fu_i]; omega) fu_pos (fun k => by
                    by_cases c : j < i
                    · rw [iT c, iF (by omega)]
                    · rw [iF c, iF (by omega)])
                  rw [a1]; simp only [bnd_e]
                  refine ⟨_, _, _, rfl, rfl, ?_⟩
                  have ne1 : ∀ q, q ≠ tpO e + 1 → copA σ (tpO d + 1) (tpO e + 1) i j n q = σ q := fun q hq => setA_ne hq
                  have at1 : ∀ k, copA σ (tpO d + 1) (tpO e + 1) i j n (tpO e + 1) k = if j ≤ k ∧ k < j + n then σ (tpO d + 1) (i + (k - j)) else σ (tpO e + 1) k := fun k => by unfold copA; rw [setA_at]
                  refine Rel.up (Rel_tape R he (fun q hq => ne1 q (by omega)) (fun q _ _ _ h31 => a2 q h31) (fun x hx => ⟨by rw [a2 28 (by decide)], by rw [a2 29 (by decide)]⟩) (fun k hk => by rw [a3, iF (by omega)]) (fun k _ => by rw [a2 30 (by decide)]) ?_)
                  unfold RelTd
                  rw [ne1 (tpO e) (by omega), ne1 (tpO e + 2) (by omega), ne1 (tpO e + 3) (by omega), ne1 (tpO e + 4) (by omega), ne1 (tpO e + 5) (by omega), ne1 (tpO e + 6) (by omega), a2 28 (by decide), a2 29 (by decide), a2 30 (by decide)]
                  exact (RelT.mk (so := U.so) (row := fun k k0 k1 => by
                      rw [at1, a3]
                      by_cases c : j ≤ k ∧ k < j + n
                      · rw [iT c, iT (by omega), T.row _ (by omega) (by omega)]; congr 1; omega
                      · rw [iF c, iF (by omega)]; exact U.row k k0 k1) (le := U.le) (by' := fun s k k0 k1 => by
                      rw [a3]
                      by_cases c : j ≤ k ∧ k < j + n
                      · rw [iT (by omega)]
                        have := T.by' (by omega) (i + (k - j)) (by omega) (by omega)
                        rw [show 100 * d + i + (100 * e + k - (100 * e + j)) = 100 * d + (i + (k - j)) by omega]; exact this
                      · rw [iF (by omega)]; exact U.by' s k k0 k1) (n := U.n) (c := U.c))
                · rw [bi_F p2]; (try simp only [bnd_e, one0, two0, if_false, ↓reduceIte])
                  have rj2 := rj.2
                  by_cases q1 : j < 0
                  · rw [iT q1]; exact refuse_m R hN _
                  · rw [iF q1, rd_e hd.1 (by omega), ck_e (by omega) (by omega), iT (show n ≤ τ 29 d - i by omega), rd_e he.1 (by omega), ck_e (by omega) (by omega), iF (show ¬ n ≤ τ 29 e - j by omega)]; exact refuse_m R hN _
              · rw [bi_F p1]; (try simp only [bnd_e, one0, two0, if_false, ↓reduceIte])
                by_cases q1 : n < 0
                · rw [iT q1]; exact refuse_m R hN _
                · rw [iF q1]
                  by_cases q2 : i < 0
                  · rw [iT q2]; exact refuse_m R hN _
                  · rw [iF q2]
                    by_cases q3 : j < 0
                    · rw [iT q3]; exact refuse_m R hN _
                    · rw [iF q3, rd_e hd.1 (by omega)]
                      have hck : τ 29 d - i ≤ 2147483647 := by omega
                      have ri2 := ri.2
                      rw [ck_e (by omega) hck, iF (show ¬ n ≤ τ 29 d - i by omega)]; exact refuse_m R hN _
            · rw [iF c3, iF c3]; exact refuse_m R hN _
    · rw [iF he, bi_F (show ¬ (0 ≤ e ∧ e ≤ 5) by omega)]; exact no_ch R
  · rw [iF hd, bi_F (show ¬ (0 ≤ d ∧ d ≤ 5) by omega)]
    by_cases he : 0 ≤ e ∧ e < 6
    · rw [iT he]; exact no_ch R
    · rw [iF he]; exact no_ch R
end

section
set_option linter.unusedVariables false
variable {σ τ : Sg} {V : Vw} {N : Int}
theorem copA_ne {i j q : Nat} {a b n : Int} (h : q ≠ j) : copA σ i j a b n q = σ q := setA_ne h
theorem copA_at {i j : Nat} {a b n k : Int} : copA σ i j a b n j k = if b ≤ k ∧ k < b + n then σ i (a + (k - b)) else σ j k := by unfold copA; rw [setA_at]
theorem become_e {x0 x1 : Nat} (h : x0 + 5 ≤ x1 ∨ x1 + 5 ≤ x0) : ∃ σ', fX1_become x0 x1 σ = some σ' ∧ (∀ j, ¬ (x0 ≤ j ∧ j ≤ x0 + 4) → σ' j = σ j) ∧ (∀ k, k ≠ 4 → σ' x0 k = σ x0 k) ∧ σ' x0 4 = σ x1 4 ∧ (∀ k, 0 ≤ k → k < 120 → σ' (x0 + 1) k = σ (x1 + 1) k ∧ σ' (x0 + 2) k = σ (x1 + 2) k ∧ σ' (x0 + 3) k = σ (x1 + 3) k ∧ σ' (x0 + 4) k = σ (x1 + 4) k) := by
  have cp : ∀ i j : Nat, ∀ s : Sg, ∀ K : Sg → Option Sg, cpy s i j 120 120 0 0 120 K = K (copA s i j 0 0 120) := fun i j s K => cpy_e (by omega) (by omega) (by omega) (by omega) (by omega)
  refine ⟨_, by unfold fX1_become; rw [cp, cp, cp, cp, st1_e], ?_, ?_, ?_, ?_⟩
  · intro j hj
    rw [put_ne (by omega), copA_ne (by omega), copA_ne (by omega), copA_ne (by omega), copA_ne (by omega)]
  · intro k hk
    rw [put_F hk, copA_ne (by omega), copA_ne (by omega), copA_ne (by omega), copA_ne (by omega)]
  · rw [put_T rfl, copA_ne (by omega), copA_ne (by omega), copA_ne (by omega), copA_ne (by omega)]
  · intro k k0 k1
    refine ⟨?_, ?_, ?_, ?_⟩
    · rw [put_ne (by omega), copA_ne (by omega), copA_ne (by omega), copA_ne (by omega), copA_at, iT (by omega), show (0 : Int) + (k - 0) = k by omega]
    · rw [put_ne (by omega), copA_ne (by omega), copA_ne (by omega), copA_at, iT (by omega), show (0 : Int) + (k - 0) = k by omega, copA_ne (by omega)]
    · rw [put_ne (by omega), copA_ne (by omega), copA_at, iT (by omega), show (0 : Int) + (k - 0) = k by omega, copA_ne (by omega), copA_ne (by omega)]
    · rw [put_ne (by omega), copA_at, iT (by omega), show (0 : Int) + (k - 0) = k by omega, copA_ne (by omega), copA_ne (by omega), copA_ne (by omega)]

theorem take_rel {σ' τ' : Sg} (R : Rel N σ τ) {m : Int} (hm : 0 ≤ m ∧ m ≤ 120) (hσ : ∀ j, ¬ (19 ≤ j ∧ j ≤ 23) → j ≠ 49 → j ≠ 54 → σ' j = σ j) (s19 : σ' 19 4 = m) (s54 : σ' 54 6 = 0)
    (hτ : ∀ j, j ≠ 0 → ¬ (13 ≤ j ∧ j ≤ 17) → τ' j = τ j) (h0 : ∀ p, p ≠ 32 → p ≠ 36 → p ≠ 54 → τ' 0 p = τ 0 p) (t32 : τ' 0 32 = m) (t36 : τ' 0 36 = 0) (t54 : τ' 0 54 = 0)
    (H : ∀ c, 0 ≤ c → c < m → (σ' 20 c = τ' 13 c ∧ σ' 21 c = τ' 14 c ∧ σ' 22 c = τ' 15 c ∧ σ' 23 c = τ' 16 c ∧ σ' 49 c = τ' 17 c) ∧ τ' 17 c = 0 ∧ told (vw τ) (τ' 14 c) ∧ (τ' 15 c = -1 ∨ isB (vw τ) (τ' 15 c)) ∧ (-4 ≤ τ' 16 c ∧ τ' 16 c ≤ 4) ∧ (τ 2 (τ' 14 c) ≤ τ' 13 c ∧ τ' 13 c ≤ 20000)) : Rel N σ' τ' := by
  have v := R.v
  have hvw : vw τ' = ((τ 1, τ 2, τ 3, τ 4, τ 5), (τ 6, τ 7, τ 8, τ 9, τ 10), (τ 11, τ 12, τ' 13, τ' 14, τ' 15), (τ' 16, τ' 17, τ 22, τ 23, τ 24), (τ 25, τ' 0 32, τ 0 33, τ 0 34, τ 0 35)) := by
    unfold vw
    simp only [hτ 1 (by decide) (by decide), hτ 2 (by decide) (by decide), hτ 3 (by decide) (by decide), hτ 4 (by decide) (by decide), hτ 5 (by decide) (by decide), hτ 6 (by decide) (by decide), hτ 7 (by decide) (by decide), hτ 8 (by decide) (by decide), hτ 9 (by decide) (by decide), hτ 10 (by decide) (by decide), hτ 11 (by decide) (by decide), hτ 12 (by decide) (by decide), hτ 22 (by decide) (by decide), hτ 23 (by decide) (by decide), hτ 24 (by decide) (by decide), hτ 25 (by decide) (by decide), h0 33 (by decide) (by decide) (by decide), h0 34 (by decide) (by decide) (by decide), h0 35 (by decide) (by decide) (by decide)]
  have vs : RelV (setA (setA (setA (setA (setA (setA σ 19 (σ' 19)) 20 (σ' 20)) 21 (σ' 21)) 22 (σ' 22)) 23 (σ' 23)) 49 (σ' 49)) ((τ 1, τ 2, τ 3, τ 4, τ 5), (τ 6, τ 7, τ 8, τ 9, τ 10), (τ 11, τ 12, τ' 13, τ' 14, τ' 15), (τ' 16, τ' 17, τ 22, τ 23, τ 24), (τ 25, τ' 0 32, τ 0 33, τ 0 34, τ 0 35)) := (RelV.all (g := v.g) (k := v.k) (b := v.b) (d := v.d) (n := by
      show σ' 19 4 = τ' 0 32 ∧ 0 ≤ τ' 0 32 ∧ τ' 0 32 ≤ 120
      omega) (c := fun i i0 i1 => by
      have i1' : i < τ' 0 32 := i1
      obtain ⟨x1, x2, x3, x4, x5, x6⟩ := H i i0 (by omega)
      refine ⟨x1, x3, x4, x5, x6, ?_⟩
      show 0 ≤ τ' 17 i ∧ τ' 17 i ≤ 6
      omega) (m := v.m) (r := v.r) (h := v.h) (f := fun k w t a b => v.f k w t a b))
  refine Rel.mk ?_ ?_ ?_ ?_ ?_ ?_
  · rw [hvw]
    refine RelV_congr vs (fun j hj => ?_)
    by_cases e49 : j = 49
    · rw [e49, setA_at]
    rw [setA_ne e49]
    by_cases e23 : j = 23
    · rw [e23, setA_at]
    rw [setA_ne e23]
    by_cases e22 : j = 22
    · rw [e22, setA_at]
    rw [setA_ne e22]
    by_cases e21 : j = 21
    · rw [e21, setA_at]
    rw [setA_ne e21]
    by_cases e20 : j = 20
    · rw [e20, setA_at]
    rw [setA_ne e20]
    by_cases e19 : j = 19
    · rw [e19, setA_at]
    rw [setA_ne e19]
    exact hσ j (by omega) e49 (ne_of_mem hj (by decide))
  · rw [hσ 0 (by decide) (by decide) (by decide), h0 31 (by decide) (by decide) (by decide)]; exact R.gap
  · rw [hσ 0 (by decide) (by decide) (by decide), h0 37 (by decide) (by decide) (by decide)]; exact R.ref
  · rw [s54, t36]; exact RelS_0
  · exact tape_congr R.tape (fun j hj => hσ j (by omega) (by omega) (by omega)) (fun j h1 h2 => hτ j (by omega) (by omega))
  · exact .inl t54
theorem cc_take {x1 : Nat} (h : 25 ≤ x1) (h' : x1 + 4 < 49 ∨ 55 ≤ x1) : ∃ σ', fX11_takeCues x1 σ = some σ' ∧ (∀ j, ¬ (19 ≤ j ∧ j ≤ 23) → j ≠ 49 → j ≠ 54 → σ' j = σ j) ∧ σ' 19 4 = σ x1 4 ∧ σ' 54 6 = 0 ∧ (∀ k, 0 ≤ k → k < 120 → σ' 20 k = σ (x1 + 1) k ∧ σ' 21 k = σ (x1 + 2) k ∧ σ' 22 k = σ (x1 + 3) k ∧ σ' 23 k = σ (x1 + 4) k ∧ σ' 49 k = 0) := by
  obtain ⟨σ1, a1, a2, a3, a4, a5⟩ := become_e (σ := σ) (x0 := 19) (x1 := x1) (by omega)
  refine ⟨put (fillA σ1 49 120 0) 54 6 0, ?_, ?_, ?_, put_T rfl, ?_⟩
  · unfold fX11_takeCues fX7_forgetFaults; rw [a1]; simp only [bnd_e]; rw [filI_e]; simp only [bnd_e]; rw [st1_e]
  · intro j j1 j2 j3; rw [put_ne j3, fillA_ne j2, a2 j (by omega)]
  · rw [put_ne (by decide), fillA_ne (by decide), a4]
  · intro k k0 k1
    obtain ⟨b1, b2, b3, b4⟩ := a5 k k0 k1
    rw [put_ne (by decide), fillA_ne (by decide), put_ne (by decide), fillA_ne (by decide), put_ne (by decide), fillA_ne (by decide), put_ne (by decide), fillA_ne (by decide), put_ne (by decide), fillA_at, iT ⟨k0, by omega⟩]
    exact ⟨b1, b2, b3, b4, rfl⟩
theorem rr_comes {m : Int} : ∃ τ', fX12_comes m τ = some τ' ∧ (∀ j, j ≠ 0 → j ≠ 17 → τ' j = τ j) ∧ (∀ p, p ≠ 32 → p ≠ 36 → τ' 0 p = τ 0 p) ∧ τ' 0 32 = m ∧ τ' 0 36 = 0 ∧ (∀ k, 0 ≤ k → k < 120 → τ' 17 k = 0) := by
  obtain ⟨τ', a1, a2, a3, a4⟩ := fil_loop (L := fun n x s => fX12_comes_L12 n x s) (i := 17) (m := 120) (v := 0) (fun n x s h0 h1 => by
    conv => lhs; unfold fX12_comes_L12
    rw [iT h1, wr_e h0 (by omega), ck_e (by omega) (by omega)]) (fun n x s h => by unfold fX12_comes_L12; rw [iF (by omega)]) fu 0 (put (put τ 0 32 m) 0 36 0) (by omega) (by rw [fu_i]; omega) fu_pos
  refine ⟨τ', ?_, fun j j0 j17 => by rw [a2 j j17, put_ne j0, put_ne j0], fun p p32 p36 => by rw [a2 0 (by decide), put_F p36, put_F p32], by rw [a2 0 (by decide), put_F (by decide), put_T rfl], by rw [a2 0 (by decide), put_T rfl], a3⟩
  unfold fX12_comes; rw [st1_e, st1_e, a1]; rfl
theorem raw_burst' {t : Nat} {c : Int} (h0 : 0 ≤ c) (h1 : c < σ t 4) (h2 : σ t 4 ≤ 120) : fX1_isCue t c σ = some 1 ∧ fX1_burstOf t c σ = some (σ (t + 1) c) ∧ fX1_kindOf t c σ = some (σ (t + 2) c) ∧ fX1_bargeOf t c σ = some (σ (t + 3) c) := by
  have e : fX1_isCue t c σ = some 1 := by unfold fX1_isCue; (try simp (disch := omega) only [↓ck_e, ↓rd_e, ↓wr_e, ↓wrB_e, ↓wrZ_e, ↓dv_e, ↓md_e, ↓fdv_e, ↓cpy_e, ↓filB_e, ↓filI_e, ↓filL_e, ↓st1_e, ↓bnd_e, ↓iT, ↓iF, ↓reduceIte, put_ne, put_T, put_F, isIn_T, isIn_F])
  refine ⟨e, ?_, ?_, ?_⟩
  · unfold fX1_burstOf; rw [e]; (try simp (disch := omega) only [↓ck_e, ↓rd_e, ↓wr_e, ↓wrB_e, ↓wrZ_e, ↓dv_e, ↓md_e, ↓fdv_e, ↓cpy_e, ↓filB_e, ↓filI_e, ↓filL_e, ↓st1_e, ↓bnd_e, ↓iT, ↓iF, ↓reduceIte, put_ne, put_T, put_F, isIn_T, isIn_F])
  · unfold fX1_kindOf; rw [e]; (try simp (disch := omega) only [↓ck_e, ↓rd_e, ↓wr_e, ↓wrB_e, ↓wrZ_e, ↓dv_e, ↓md_e, ↓fdv_e, ↓cpy_e, ↓filB_e, ↓filI_e, ↓filL_e, ↓st1_e, ↓bnd_e, ↓iT, ↓iF, ↓reduceIte, put_ne, put_T, put_F, isIn_T, isIn_F])
  · unfold fX1_bargeOf; rw [e]; (try simp (disch := omega) only [↓ck_e, ↓rd_e, ↓wr_e, ↓wrB_e, ↓wrZ_e, ↓dv_e, ↓md_e, ↓fdv_e, ↓cpy_e, ↓filB_e, ↓filI_e, ↓filL_e, ↓st1_e, ↓bnd_e, ↓iT, ↓iF, ↓reduceIte, put_ne, put_T, put_F, isIn_T, isIn_F])

theorem cc_openT {t : Nat} {m : Int} (hm : σ t 4 = m ∧ 0 ≤ m ∧ m ≤ 120) {f : Int → Int} (H : ∀ c, 0 ≤ c → c < m → σ (t + 3) c = f c) : fX1_openOnes t σ = some (sumI (fun c => bi (f c = -1)) m.toNat 0) := by
  have l1 := cnt (L := fun n a i => fX1_openOnes_L4 n t a i σ) (m := m) (g := fun c => bi (f c = -1)) (fun j => bi_rng)
    (fun n a i i0 i1 a0 a1 => by
      conv => lhs; unfold fX1_openOnes_L4
      rw [iT (by omega), (raw_burst' i0 (by omega) (by omega)).2.2.2, H i i0 i1]; simp only [bnd_e]
      by_cases e : f i = -1
      · rw [iT e, bi_T e]; unfold fX1_openOnes_L4P24; (try simp (disch := omega) only [↓ck_e, ↓rd_e, ↓wr_e, ↓wrB_e, ↓wrZ_e, ↓dv_e, ↓md_e, ↓fdv_e, ↓cpy_e, ↓filB_e, ↓filI_e, ↓filL_e, ↓st1_e, ↓bnd_e, ↓iT, ↓iF, ↓reduceIte, put_ne, put_T, put_F, isIn_T, isIn_F])
      · rw [iF e, bi_F e]; unfold fX1_openOnes_L4P24; (try simp (disch := omega) only [↓ck_e, ↓rd_e, ↓wr_e, ↓wrB_e, ↓wrZ_e, ↓dv_e, ↓md_e, ↓fdv_e, ↓cpy_e, ↓filB_e, ↓filI_e, ↓filL_e, ↓st1_e, ↓bnd_e, ↓iT, ↓iF, ↓reduceIte, put_ne, put_T, put_F, isIn_T, isIn_F]); rw [show a + 0 = a by omega])
    (fun n a i i0 => by unfold fX1_openOnes_L4; rw [iF (by omega)]) fu 0 0 (by omega) (by omega) (by omega) (by rw [fu_i]; omega) fu_pos
  unfold fX1_openOnes
  rw [l1]; simp only [bnd_e]
  rw [show (m - 0).toNat = m.toNat by omega]; congr 1; omega
theorem m_toss (d : Int) : Mt (fX11_toss d) (fX12_toss d) := by
  intro N σ τ R hN
  unfold fX11_toss fX12_toss fX12_wrongShow fX9_refusalAs
  rw [isTape_b]; simp only [bnd_e]
  by_cases hd : 0 ≤ d ∧ d < 6
  · rw [iT hd, bi_T (show 0 ≤ d ∧ d ≤ 5 by omega)]; (try simp only [bnd_e, one0, two0, if_false, ↓reduceIte])
    have T := R.tape d hd.1 hd.2
    have so := T.so
    rw [so.1, rd_e hd.1 (by omega)]
    by_cases c0 : τ 28 d = 0
    · obtain ⟨r1, r2, r3⟩ := refuse_e R hN (-11)
      rw [iT c0, iT c0, r2]; simp only [bnd_e]
      rw [iF (by decide), iF (by decide), r1]
      exact ⟨_, _, _, rfl, rfl, r3⟩
    · rw [iF c0, iF c0, rd_e hd.1 (by omega)]
      by_cases c5 : τ 28 d = 5
      · rw [iT c5, iT c5]; simp only [bnd_e, if_true]
        have hn := T.n c5
        have op := cc_openT (σ := σ) (t := tpO d + 2) (m := τ 29 d) hn (f := fun c => τ 30 (480 * d + 4 * c + 2)) (fun c c0 c1 => (T.c c5 c c0 c1).1.2.2.1)
        have l2 := cnt (L := fun n a i => fX12_toss_L17 n d a i τ) (m := τ 29 d) (g := fun c => bi (τ 30 (480 * d + 4 * c + 2) = -1)) (fun j => bi_rng)
          (fun n a i i0 i1 a0 a1 => by
            have hb := (T.c c5 i i0 i1)
            conv => lhs; unfold fX12_toss_L17
            rw [rd_e hd.1 (by omega), iT i1, ck_e (by omega) (by omega), ck_e (by omega) (by omega), ck_e (by omega) (by omega), ck_e (by omega) (by omega), rd_e (by omega) (by omega), show 4 * (120 * d + i) + 2 = 480 * d + 4 * i + 2 by omega]
            by_cases e : τ 30 (480 * d + 4 * i + 2) = -1
            · rw [iT (by omega), bi_T e]; unfold fX12_toss_L17P53; (try simp (disch := omega) only [↓ck_e, ↓rd_e, ↓wr_e, ↓wrB_e, ↓wrZ_e, ↓dv_e, ↓md_e, ↓fdv_e, ↓cpy_e, ↓filB_e, ↓filI_e, ↓filL_e, ↓st1_e, ↓bnd_e, ↓iT, ↓iF, ↓reduceIte, put_ne, put_T, put_F, isIn_T, isIn_F])
            · rw [iF (by omega), bi_F e]; unfold fX12_toss_L17P53; (try simp (disch := omega) only [↓ck_e, ↓rd_e, ↓wr_e, ↓wrB_e, ↓wrZ_e, ↓dv_e, ↓md_e, ↓fdv_e, ↓cpy_e, ↓filB_e, ↓filI_e, ↓filL_e, ↓st1_e, ↓bnd_e, ↓iT, ↓iF, ↓reduceIte, put_ne, put_T, put_F, isIn_T, isIn_F]))
          (fun n a i i0 => by unfold fX12_toss_L17; rw [rd_e hd.1 (by omega), iF (by omega)]) fu 0 0 (by omega) (by omega) (by omega) (by rw [fu_i]; omega) fu_pos
        rw [l2, show (0 : Int) + sumI (fun c => bi (τ 30 (480 * d + 4 * c + 2) = -1)) (τ 29 d - 0).toNat 0 = sumI (fun c => bi (τ 30 (480 * d + 4 * c + 2) = -1)) (τ 29 d).toNat 0 by rw [show τ 29 d - 0 = τ 29 d by omega]; omega]
        have hr := sumI_rng (g := fun c => bi (τ 30 (480 * d + 4 * c + 2) = -1)) (fun j => bi_rng) (τ 29 d).toNat 0
        unfold fX9_throwFailureT fX9_throwFailure
        rw [op]; simp only [bnd_e]
        generalize sumI (fun c => bi (τ 30 (480 * d + 4 * c + 2) = -1)) (τ 29 d).toNat 0 = q at hr ⊢
        by_cases z : q = 0
        · rw [iT (show q ≤ 0 by omega), iT (show q ≤ 0 by omega), iT z, iF (by simp)]; simp only [bnd_e]
          exact refuse_m R hN _
        · rw [iF (show ¬ q ≤ 0 by omega), iF (show ¬ q ≤ 0 by omega), iF z, iT (by rfl)]
          exact ⟨_, _, _, rfl, rfl, R.up⟩
      · obtain ⟨r1, r2, r3⟩ := refuse_e R hN (-12)
        rw [iF c5, iF c5, r2]; simp only [bnd_e]
        rw [iF (by decide), iF (by decide), r1]
        exact ⟨_, _, _, rfl, rfl, r3⟩
  · rw [iF hd, bi_F (show ¬ (0 ≤ d ∧ d ≤ 5) by omega)]; exact no_ch R
end

section
set_option linter.unusedVariables false
variable {σ τ : Sg} {V : Vw} {N : Int}
theorem rr_keepL {d m : Int} (hd : 0 ≤ d ∧ d < 6) (hm : 0 ≤ m ∧ m ≤ 120) : ∀ (n : Nat) (x : Int) (τ : Sg), τ 0 32 = m → 0 ≤ x → m - x < (n : Int) → 0 < n → ∃ τ', fX12_keep_L28 n d x τ = some τ' ∧ (∀ j, j ≠ 30 → τ' j = τ j) ∧
    (∀ c, x ≤ c → c < m → τ' 30 (480 * d + 4 * c) = τ 13 c ∧ τ' 30 (480 * d + 4 * c + 1) = τ 14 c ∧ τ' 30 (480 * d + 4 * c + 2) = τ 15 c ∧ τ' 30 (480 * d + 4 * c + 3) = τ 16 c) ∧ (∀ k, ¬ (480 * d + 4 * x ≤ k ∧ k < 480 * d + 4 * m) → τ' 30 k = τ 30 k) := by
  intro n
  induction n with
  | zero => intro x τ _ _ h; omega
  | succ n ih =>
    intro x τ hV h0 h1 _
    unfold fX12_keep_L28
    by_cases c : x < m
    · obtain ⟨τ', a1, a2, a3, a4⟩ := ih (x + 1) (put (put (put (put τ 30 (480 * d + 4 * x) (τ 13 x)) 30 (480 * d + 4 * x + 1) (τ 14 x)) 30 (480 * d + 4 * x + 2) (τ 15 x)) 30 (480 * d + 4 * x + 3) (τ 16 x)) (by rw [put_ne (by decide), put_ne (by decide), put_ne (by decide), put_ne (by decide)]; exact hV) (by omega) (by omega) (by omega)
      refine ⟨τ', ?_, fun j hj => by rw [a2 j hj, put_ne hj, put_ne hj, put_ne hj, put_ne hj], ?_, ?_⟩
      · rw [iT (by omega), ck_e (by omega) (by omega), ck_e (by omega) (by omega), ck_e (by omega) (by omega), show 4 * (120 * d + x) = 480 * d + 4 * x by omega, rd_e h0 (by omega), wr_e (by omega) (by omega), ck_e (by omega) (by omega), rd_e h0 (by omega), put_ne (by decide), wr_e (by omega) (by omega), ck_e (by omega) (by omega), rd_e h0 (by omega)]
        simp (disch := decide) only [put_ne]
        rw [wr_e (by omega) (by omega), ck_e (by omega) (by omega), rd_e h0 (by omega)]
        simp (disch := decide) only [put_ne]
        rw [wr_e (by omega) (by omega), ck_e (by omega) (by omega)]
        exact a1
      · intro c c0 c1
        by_cases e : c = x
        · subst e
          rw [a4 _ (by omega), a4 _ (by omega), a4 _ (by omega), a4 _ (by omega)]
          refine ⟨?_, ?_, ?_, ?_⟩
          · rw [put_F (by omega), put_F (by omega), put_F (by omega), put_T rfl]
          · rw [put_F (by omega), put_F (by omega), put_T rfl]
          · rw [put_F (by omega), put_T rfl]
          · rw [put_T rfl]
        · have := a3 c (by omega) c1
          simp (disch := decide) only [put_ne] at this
          exact this
      · intro k hk; rw [a4 k (by omega), put_F (by omega), put_F (by omega), put_F (by omega), put_F (by omega)]
    · exact ⟨τ, by rw [iF (by omega)], fun _ _ => rfl, fun k k0 k1 => by omega, fun _ _ => rfl⟩
theorem m_keep (d : Int) : Mt (fX11_keep d) (fX12_keep d) := by
  intro N σ τ R hN
  have v := R.v
  have hn := v.n
  dsimp only [vw] at hn
  unfold fX11_keep fX12_keep
  rw [isTape_b]; simp only [bnd_e]
  by_cases h : 0 ≤ d ∧ d < 6
  · rw [iT h, bi_T (show 0 ≤ d ∧ d ≤ 5 by omega)]; (try simp only [bnd_e, one0, two0, if_false, ↓reduceIte])
    have T := R.tape d h.1 h.2
    have tg := tpO_ge (d := d)
    obtain ⟨σ', a1, a2, a3, a4, a5⟩ := become_e (σ := put (put σ (tpO d) 0 5) (tpO d) 1 0) (x0 := tpO d + 2) (x1 := 19) (by omega)
    have ms : fX9_makeShow (tpO d) 19 σ = some σ' := by unfold fX9_makeShow; rw [st1_e, st1_e, a1]; rfl
    obtain ⟨τ', b1, b2, b3, b4⟩ := rr_keepL h (m := τ 0 32) (by omega) fu 0 (put (put τ 28 d 5) 29 d (τ 0 32)) (by rw [put_ne (by decide), put_ne (by decide)]) (by omega) (by rw [fu_i]; omega) fu_pos
    simp (disch := decide) only [put_ne] at b3
    rw [ms, wr_e h.1 (by omega), wr_e h.1 (by omega), put_ne (show (0 : Nat) ≠ 28 by decide), b1]; simp only [bnd_e]
    have s19 : σ' 19 4 = τ 0 32 := by rw [a2 19 (by omega), put_ne (by omega), put_ne (by omega)]; exact hn.1
    have t32 : τ' 0 32 = τ 0 32 := by rw [b2 0 (by decide), put_ne (by decide), put_ne (by decide)]
    refine ⟨_, _, _, rfl, by rw [s19, t32], ?_⟩
    refine Rel.up (Rel_tape R h (fun j hj => by rw [a2 j (by omega), put_ne (by omega), put_ne (by omega)]) (fun j j28 j29 j30 _ => by rw [b2 j j30, put_ne j29, put_ne j28]) (fun e he => ⟨by rw [b2 28 (by decide), put_ne (by decide), put_F he], by rw [b2 29 (by decide), put_F he, put_ne (by decide)]⟩) (fun k hk => by rw [b2 31 (by decide), put_ne (by decide), put_ne (by decide)]) (fun k hk => by rw [b4 k (by omega), put_ne (by decide), put_ne (by decide)]) ?_)
    unfold RelTd
    have q0 : σ' (tpO d) 0 = 5 := by rw [a2 (tpO d) (by omega), put_F (by decide), put_T rfl]
    have q1 : σ' (tpO d + 1) = σ (tpO d + 1) := by rw [a2 (tpO d + 1) (by omega), put_ne (by omega), put_ne (by omega)]
    have q2 : σ' (tpO d + 2) 4 = τ 0 32 := by rw [a4, put_ne (by omega), put_ne (by omega)]; exact hn.1
    have t28 : τ' 28 d = 5 := by rw [b2 28 (by decide), put_ne (by decide), put_T rfl]
    have t29 : τ' 29 d = τ 0 32 := by rw [b2 29 (by decide), put_T rfl]
    have t31 : τ' 31 = τ 31 := by rw [b2 31 (by decide), put_ne (by decide), put_ne (by decide)]
    rw [q0, q1, q2, t28, t29, t31]
    exact (RelT.mk (so := by omega) (row := T.row) (le := fun x => by omega) (by' := fun x => by omega) (n := fun _ => by omega) (c := fun _ c c0 c1 => by
        have e := v.c c c0 c1
        have hk := v.k _ e.2.1.1.1 e.2.1.1.2
        have hk1 := e.2.1.1
        obtain ⟨x1, x2, x3, x4⟩ := a5 c c0 (by omega)
        obtain ⟨y1, y2, y3, y4⟩ := b3 c c0 c1
        rw [put_ne (by omega), put_ne (by omega)] at x1 x2 x3 x4
        have z1 : σ' (tpO d + 3) c = σ 20 c := x1
        have z2 : σ' (tpO d + 4) c = σ 21 c := x2
        have z3 : σ' (tpO d + 5) c = σ 22 c := x3
        have z4 : σ' (tpO d + 6) c = σ 23 c := x4
        rw [z1, z2, z3, z4, y1, y2, y3, y4]
        have eb := e.2.2.1
        unfold isB at eb
        dsimp only [vw] at e hk hk1 eb
        refine ⟨⟨e.1.1, e.1.2.1, e.1.2.2.1, e.1.2.2.2.1⟩, ?_, ?_, ?_, ?_⟩
        · rw [e.1.1]; omega
        · rw [e.1.2.1]; omega
        · rw [e.1.2.2.1]; omega
        · rw [e.1.2.2.2.1]; exact e.2.2.2.1))
  · rw [iF h, bi_F (show ¬ (0 ≤ d ∧ d ≤ 5) by omega)]; exact no_ch R
theorem rr_backL {d m : Int} (hd : 0 ≤ d ∧ d < 6) (hm : 0 ≤ m ∧ m ≤ 120) : ∀ (n : Nat) (x : Int) (τ : Sg), τ 0 32 = m → 0 ≤ x → m - x < (n : Int) → 0 < n → ∃ τ', fX12_back_L170 n (480 * d) x τ = some τ' ∧ (∀ j, ¬ (13 ≤ j ∧ j ≤ 16) → τ' j = τ j) ∧
    (∀ c, x ≤ c → c < m → τ' 13 c = τ 30 (480 * d + 4 * c) ∧ τ' 14 c = τ 30 (480 * d + 4 * c + 1) ∧ τ' 15 c = τ 30 (480 * d + 4 * c + 2) ∧ τ' 16 c = τ 30 (480 * d + 4 * c + 3)) ∧ (∀ c, c < x → τ' 13 c = τ 13 c ∧ τ' 14 c = τ 14 c ∧ τ' 15 c = τ 15 c ∧ τ' 16 c = τ 16 c) := by
  intro n
  induction n with
  | zero => intro x τ _ _ h; omega
  | succ n ih =>
    intro x τ hV h0 h1 _
    unfold fX12_back_L170
    by_cases c : x < m
    · obtain ⟨τ', a1, a2, a3, a4⟩ := ih (x + 1) (put (put (put (put τ 13 x (τ 30 (480 * d + 4 * x))) 14 x (τ 30 (480 * d + 4 * x + 1))) 15 x (τ 30 (480 * d + 4 * x + 2))) 16 x (τ 30 (480 * d + 4 * x + 3))) (by rw [put_ne (by decide), put_ne (by decide), put_ne (by decide), put_ne (by decide)]; exact hV) (by omega) (by omega) (by omega)
      refine ⟨τ', ?_, fun j hj => by rw [a2 j hj, put_ne (by omega), put_ne (by omega), put_ne (by omega), put_ne (by omega)], ?_, ?_⟩
      · rw [iT (by omega), ck_e (by omega) (by omega), ck_e (by omega) (by omega), rd_e (by omega) (by omega), wr_e (by omega) (by omega), ck_e (by omega) (by omega), ck_e (by omega) (by omega), ck_e (by omega) (by omega), rd_e (by omega) (by omega), put_ne (by decide), wr_e (by omega) (by omega), ck_e (by omega) (by omega), ck_e (by omega) (by omega), ck_e (by omega) (by omega), rd_e (by omega) (by omega)]
        simp (disch := decide) only [put_ne]
        rw [wr_e (by omega) (by omega), ck_e (by omega) (by omega), ck_e (by omega) (by omega), ck_e (by omega) (by omega), rd_e (by omega) (by omega)]
        simp (disch := decide) only [put_ne]
        rw [wr_e (by omega) (by omega), ck_e (by omega) (by omega)]
        exact a1
      · intro c c0 c1
        by_cases e : c = x
        · subst e
          obtain ⟨x1, x2, x3, x4⟩ := a4 _ (show _ < _ from Int.lt_succ _)
          rw [x1, x2, x3, x4]
          refine ⟨?_, ?_, ?_, ?_⟩
          · rw [put_ne (by decide), put_ne (by decide), put_ne (by decide), put_T rfl]
          · rw [put_ne (by decide), put_ne (by decide), put_T rfl]
          · rw [put_ne (by decide), put_T rfl]
          · rw [put_T rfl]
        · have := a3 c (by omega) c1
          simp (disch := decide) only [put_ne] at this
          exact this
      · intro k hk
        obtain ⟨x1, x2, x3, x4⟩ := a4 k (by omega)
        rw [x1, x2, x3, x4]
        have : k ≠ x := by omega
        simp (disch := decide) only [put_ne]
        rw [put_F this, put_F this, put_F this, put_F this]; exact ⟨rfl, rfl, rfl, rfl⟩
    · exact ⟨τ, by rw [iF (by omega)], fun _ _ => rfl, fun k k0 k1 => by omega, fun _ _ => ⟨rfl, rfl, rfl, rfl⟩⟩
theorem m_back (d : Int) : Mt (fX11_back d) (fX12_back d) := by
  intro N σ τ R0 hN
  have R := Rel_54 R0
  have hvw : vw (put τ 0 54 0) = vw τ := rfl
  unfold fX12_back
  rw [st1_e]
  generalize hτ : put τ 0 54 0 = τ1 at R hvw ⊢
  have t54 : τ1 0 54 = 0 := by rw [← hτ, put_T rfl]
  have v := R.v
  unfold fX11_back fX12_wrongShow fX9_refusalAs
  rw [isTape_b]; simp only [bnd_e]
  by_cases hd : 0 ≤ d ∧ d < 6
  · rw [iT hd, bi_T (show 0 ≤ d ∧ d ≤ 5 by omega)]; (try simp only [bnd_e, one0, two0, if_false, ↓reduceIte])
    have T := R.tape d hd.1 hd.2
    have so := T.so
    rw [so.1, rd_e hd.1 (by omega)]
    by_cases c0 : τ1 28 d = 0
    · obtain ⟨r1, r2, r3⟩ := refuse_e R hN (-11)
      rw [iT c0, iT c0, r2]; simp only [bnd_e]
      rw [iF (by decide), iF (by decide), r1]
      exact ⟨_, _, _, rfl, rfl, r3⟩
    · rw [iF c0, iF c0, rd_e hd.1 (by omega)]
      by_cases c5 : τ1 28 d = 5
      · rw [iT c5, iT c5]; simp only [bnd_e, if_true]
        have hn := T.n c5
        have hT := T.c c5
        have tg := tpO_ge (d := d)
        obtain ⟨m, hm⟩ : ∃ m, m = τ1 29 d := ⟨_, rfl⟩
        rw [← hm] at hn hT
        rw [ck_e (by omega) (by omega)]
        let P : Int → Prop := fun c => ¬ (told (vw τ1) (τ1 30 (480 * d + 4 * c + 1)) ∧ (τ1 30 (480 * d + 4 * c + 2) = -1 ∨ isB (vw τ1) (τ1 30 (480 * d + 4 * c + 2))))
        have k1 := srch (L := fun n i => fX8_tellsAllOf_L2 n (tpO d + 2) i σ) (lo := 0) (m := m) (P := P) (a := some (.inl ())) (b := some (.inr ()))
          (fun n i i0 i1 hp => by
            have e := (hT i i0 i1).1
            obtain ⟨-, -, x3, x4⟩ := raw_burst' (σ := σ) (t := tpO d + 2) i0 (by omega) (by omega)
            unfold fX8_tellsAllOf_L2
            rw [iT (by omega), x4]; simp only [bnd_e]
            rw [x3, show σ (tpO d + 2 + 2) i = σ (tpO d + 4) i from rfl, show σ (tpO d + 2 + 3) i = σ (tpO d + 5) i from rfl, e.2.1, e.2.2.1]; simp only [bnd_e]
            rw [cc_told v.toRelN]; simp only [bnd_e]
            by_cases t : told (vw τ1) (τ1 30 (480 * d + 4 * i + 1))
            · rw [bi_T t, iF (by decide)]
              by_cases o : τ1 30 (480 * d + 4 * i + 2) = -1
              · exact absurd ⟨t, .inl o⟩ hp
              · rw [iF o, cc_isBarge v.toRelN, bi_F (fun x => hp ⟨t, .inr x⟩)]; rfl
            · rw [bi_F t]; rfl)
          (fun n i i0 i1 hp => by
            have e := (hT i i0 i1).1
            obtain ⟨-, -, x3, x4⟩ := raw_burst' (σ := σ) (t := tpO d + 2) i0 (by omega) (by omega)
            obtain ⟨t, o⟩ := Classical.not_not.mp hp
            conv => lhs; unfold fX8_tellsAllOf_L2
            rw [iT (by omega), x4]; simp only [bnd_e]
            rw [x3, show σ (tpO d + 2 + 2) i = σ (tpO d + 4) i from rfl, show σ (tpO d + 2 + 3) i = σ (tpO d + 5) i from rfl, e.2.1, e.2.2.1]; simp only [bnd_e]
            rw [cc_told v.toRelN]; simp only [bnd_e]
            rw [bi_T t, iF (by decide)]
            unfold fX8_tellsAllOf_L2P46
            by_cases o1 : τ1 30 (480 * d + 4 * i + 2) = -1
            · rw [iT o1, ck_e (by omega) (by omega)]
            · rw [iF o1, cc_isBarge v.toRelN, bi_T (by rcases o with o | o; exact absurd o o1; exact o)]; simp only [bnd_e]; rw [iF (by decide), ck_e (by omega) (by omega)])
          (fun n i i0 i1 => by unfold fX8_tellsAllOf_L2; rw [iF (by omega)]) fu 0 (by omega) (by rw [fu_i]; omega) fu_pos
        have k2 := srch (L := fun n i => fX12_back_L26 n d (480 * d) i τ1) (lo := 0) (m := m) (P := P) (a := some (.inl ())) (b := some (.inr ()))
          (fun n i i0 i1 hp => by
            have e := (hT i i0 i1)
            unfold fX12_back_L26
            rw [rd_e hd.1 (by omega), iT (by omega), ck_e (by omega) (by omega), ck_e (by omega) (by omega), ck_e (by omega) (by omega), rd_e (by omega) (by omega), rr_isKind]; simp only [bnd_e]
            by_cases t : told (vw τ1) (τ1 30 (480 * d + 4 * i + 1))
            · rw [bi_T t, iF (by decide), ck_e (by omega) (by omega), ck_e (by omega) (by omega), ck_e (by omega) (by omega), rd_e (by omega) (by omega)]
              by_cases o : τ1 30 (480 * d + 4 * i + 2) = -1
              · exact absurd ⟨t, .inl o⟩ hp
              · rw [iF (by omega), ck_e (by omega) (by omega), ck_e (by omega) (by omega), ck_e (by omega) (by omega), rd_e (by omega) (by omega), rr_isBarge, bi_F (fun x => hp ⟨t, .inr x⟩)]; rfl
            · rw [bi_F t]; rfl)
          (fun n i i0 i1 hp => by
            have e := (hT i i0 i1)
            obtain ⟨t, o⟩ := Classical.not_not.mp hp
            conv => lhs; unfold fX12_back_L26
            rw [rd_e hd.1 (by omega), iT (by omega), ck_e (by omega) (by omega), ck_e (by omega) (by omega), ck_e (by omega) (by omega), rd_e (by omega) (by omega), rr_isKind]; simp only [bnd_e]
            rw [bi_T t, iF (by decide), ck_e (by omega) (by omega), ck_e (by omega) (by omega), ck_e (by omega) (by omega), rd_e (by omega) (by omega)]
            unfold fX12_back_L26P96
            by_cases o1 : τ1 30 (480 * d + 4 * i + 2) = -1
            · rw [iT (by omega), ck_e (by omega) (by omega)]
            · rw [iF (by omega), ck_e (by omega) (by omega), ck_e (by omega) (by omega), ck_e (by omega) (by omega), rd_e (by omega) (by omega), rr_isBarge, bi_T (by rcases o with o | o; exact absurd o o1; exact o)]; simp only [bnd_e]; rw [iF (by decide), ck_e (by omega) (by omega)])
          (fun n i i0 i1 => by unfold fX12_back_L26; rw [rd_e hd.1 (by omega), iF (by omega)]) fu 0 (by omega) (by rw [fu_i]; omega) fu_pos
        unfold fX8_tellsAllOf
        by_cases un : ∃ j, 0 ≤ j ∧ j < m ∧ P j
        · rw [k1.1 un, k2.1 un]; exact ⟨_, _, _, rfl, rfl, R.up⟩
        · rw [k1.2 un, k2.2 un]; simp only [bnd_e, Sum.elim_inr]; (try simp only [bnd_e, one0, two0, if_false, ↓reduceIte])
          have all : ∀ c, 0 ≤ c → c < m → told (vw τ1) (τ1 30 (480 * d + 4 * c + 1)) ∧ (τ1 30 (480 * d + 4 * c + 2) = -1 ∨ isB (vw τ1) (τ1 30 (480 * d + 4 * c + 2))) := fun c c0 c1 => Classical.byContradiction (fun x => un ⟨c, c0, c1, x⟩)
          have k3 := srch (L := fun n i => fX11_back_L48 n (tpO d) i σ) (lo := 0) (m := m) (P := fun c => τ1 30 (480 * d + 4 * c) < τ1 2 (τ1 30 (480 * d + 4 * c + 1))) (a := some (.inl ())) (b := some (.inr ()))
            (fun n i i0 i1 hp => by
              have e := hT i i0 i1
              have hk := v.k _ (all i i0 i1).1.1.1 (all i i0 i1).1.1.2
              dsimp only [vw] at hk
              obtain ⟨-, x2, x3, x4⟩ := raw_burst' (σ := σ) (t := tpO d + 2) i0 (by omega) (by omega)
              unfold fX11_back_L48 fX8_fireOf
              rw [iT (by omega), x2, x3, show σ (tpO d + 2 + 2) i = σ (tpO d + 4) i from rfl, show σ (tpO d + 2 + 1) i = σ (tpO d + 3) i from rfl, e.1.1, e.1.2.1]; simp only [bnd_e]
              rw [cc_lift v.toRelN (all i i0 i1).1]; simp only [bnd_e]
              rw [e.1.1, e.1.2.1] at e
              rw [ck_e (by omega) (by omega)]; simp only [bnd_e]; rw [iT (by omega)])
            (fun n i i0 i1 hp => by
              have e := hT i i0 i1
              have hk := v.k _ (all i i0 i1).1.1.1 (all i i0 i1).1.1.2
              dsimp only [vw] at hk
              obtain ⟨-, x2, x3, x4⟩ := raw_burst' (σ := σ) (t := tpO d + 2) i0 (by omega) (by omega)
              conv => lhs; unfold fX11_back_L48 fX8_fireOf
              rw [iT (by omega), x2, x3, show σ (tpO d + 2 + 2) i = σ (tpO d + 4) i from rfl, show σ (tpO d + 2 + 1) i = σ (tpO d + 3) i from rfl, e.1.1, e.1.2.1]; simp only [bnd_e]
              rw [cc_lift v.toRelN (all i i0 i1).1]; simp only [bnd_e]
              rw [e.1.1, e.1.2.1] at e
              rw [ck_e (by omega) (by omega)]; simp only [bnd_e]; rw [iF (by omega), ck_e (by omega) (by omega)])
            (fun n i i0 i1 => by unfold fX11_back_L48; rw [iF (by omega)]) fu 0 (by omega) (by rw [fu_i]; omega) fu_pos
          have k4 := srch (L := fun n i => fX12_back_L105 n d (480 * d) i τ1) (lo := 0) (m := m) (P := fun c => τ1 30 (480 * d + 4 * c) < τ1 2 (τ1 30 (480 * d + 4 * c + 1))) (a := some (.inl ())) (b := some (.inr ()))
            (fun n i i0 i1 hp => by
              have a := (all i i0 i1).1.1
              unfold fX12_back_L105
              rw [rd_e hd.1 (by omega), iT (by omega), ck_e (by omega) (by omega), ck_e (by omega) (by omega), rd_e (by omega) (by omega), ck_e (by omega) (by omega), ck_e (by omega) (by omega), ck_e (by omega) (by omega), rd_e (by omega) (by omega), rd_e (by omega) (by omega), iT hp])
            (fun n i i0 i1 hp => by
              have a := (all i i0 i1).1.1
              conv => lhs; unfold fX12_back_L105
              rw [rd_e hd.1 (by omega), iT (by omega), ck_e (by omega) (by omega), ck_e (by omega) (by omega), rd_e (by omega) (by omega), ck_e (by omega) (by omega), ck_e (by omega) (by omega), ck_e (by omega) (by omega), rd_e (by omega) (by omega), rd_e (by omega) (by omega), iF hp, ck_e (by omega) (by omega)])
            (fun n i i0 i1 => by unfold fX12_back_L105; rw [rd_e hd.1 (by omega), iF (by omega)]) fu 0 (by omega) (by rw [fu_i]; omega) fu_pos
          by_cases ea : ∃ j, 0 ≤ j ∧ j < m ∧ τ1 30 (480 * d + 4 * j) < τ1 2 (τ1 30 (480 * d + 4 * j + 1))
          · rw [k3.1 ea, k4.1 ea]; exact ⟨_, _, _, rfl, rfl, R.up⟩
          · rw [k3.2 ea, k4.2 ea]; simp only [bnd_e, Sum.elim_inr]
            have tl := tpO_le hd.2
            obtain ⟨σ', a1, a2, a3, a4, a5⟩ := cc_take (σ := σ) (x1 := tpO d + 2) (by omega) (by omega)
            obtain ⟨τ2, b1, b2, b3, b4, b5, b6⟩ := rr_comes (τ := τ1) (m := m)
            obtain ⟨τ3, d1, d2, d3, d4⟩ := rr_backL hd hn.2 fu 0 τ2 b4 (by omega) (by rw [fu_i]; omega) fu_pos
            rw [a1, rd_e hd.1 (by omega), ← hm, b1]; simp only [bnd_e]; rw [d1]; simp only [bnd_e]
            have s19 : σ' 19 4 = m := by rw [a3]; exact hn.1
            have t32 : τ3 0 32 = m := by rw [d2 0 (by omega)]; exact b4
            refine ⟨_, _, _, rfl, by rw [s19, t32], ?_⟩
            refine Rel.up (take_rel R hn.2 a2 s19 a4 (fun j j0 j1 => by rw [d2 j (by omega), b2 j j0 (by omega)]) (fun p p32 p36 p54 => by rw [d2 0 (by omega), b3 p p32 p36]) t32 (by rw [d2 0 (by omega)]; exact b5) (by rw [d2 0 (by omega), b3 54 (by decide) (by decide)]; exact t54) ?_)
            intro c c0 c1
            have e := hT c c0 c1
            obtain ⟨x1, x2, x3, x4⟩ := d3 c c0 c1
            obtain ⟨y1, y2, y3, y4, y5⟩ := a5 c c0 (by omega)
            have f17 : τ3 17 c = 0 := by rw [d2 17 (by omega)]; exact b6 c c0 (by omega)
            rw [b2 30 (by decide) (by decide)] at x1 x2 x3 x4
            have al := all c c0 c1
            have er : ¬ τ1 30 (480 * d + 4 * c) < τ1 2 (τ1 30 (480 * d + 4 * c + 1)) := fun x => ea ⟨c, c0, c1, x⟩
            rw [x1, x2, x3, x4, y1, y2, y3, y4, y5, f17]
            refine ⟨⟨e.1.1, e.1.2.1, e.1.2.2.1, e.1.2.2.2, rfl⟩, rfl, al.1, al.2, ?_, ?_⟩
            · rw [← e.1.2.2.2]; exact e.2.2.2.2
            · have := e.2.1; rw [e.1.1] at this; omega
      · obtain ⟨r1, r2, r3⟩ := refuse_e R hN (-12)
        rw [iF c5, iF c5, r2]; simp only [bnd_e]
        rw [iF (by decide), iF (by decide), r1]
        exact ⟨_, _, _, rfl, rfl, r3⟩
  · rw [iF hd, bi_F (show ¬ (0 ≤ d ∧ d ≤ 5) by omega)]; exact ⟨_, _, _, rfl, rfl, R.up⟩
end

section
set_option linter.unusedVariables false
variable {σ τ : Sg} {V : Vw} {N : Int}

theorem cc_seenL {x c m : Int} (hm : 0 ≤ m ∧ m < 60) : ∀ (k n : Nat) (σ : Sg), (k : Int) ≤ m → k + 1 ≤ n → ∃ (k' : Int) (σ' : Sg), fX10_tell_L22 n x c k σ = some (k', σ') ∧ (0 ≤ k' ∧ k' ≤ k) ∧ (∀ j, j ≠ 55 → j ≠ 56 → σ' j = σ j) ∧
    (∀ j : Int, 0 ≤ j → j < k' → σ' 55 j = σ 55 j ∧ σ' 56 j = σ 56 j) ∧ (∀ j : Int, k' < j → j ≤ k → σ' 55 j = σ 55 (j - 1) ∧ σ' 56 j = σ 56 (j - 1)) ∧ (∀ j : Int, (k : Int) < j → σ' 55 j = σ 55 j ∧ σ' 56 j = σ 56 j) ∧
    (∀ j : Int, k' ≤ j → j < k → x < σ 55 j) ∧ (0 < k' → σ 55 (k' - 1) ≤ x) := by
  intro k
  induction k with
  | zero =>
    intro n σ hk hn
    obtain ⟨n, rfl⟩ : ∃ m, n = m + 1 := ⟨n - 1, by omega⟩
    refine ⟨0, σ, by unfold fX10_tell_L22; rw [iT (by omega)]; rfl, by omega, fun _ _ _ => rfl, fun _ _ _ => ⟨rfl, rfl⟩, fun j _ _ => by omega, fun _ _ => ⟨rfl, rfl⟩, fun j _ _ => by omega, fun _ => by omega⟩
  | succ k ih =>
    intro n σ hk hn
    obtain ⟨n, rfl⟩ : ∃ m, n = m + 1 := ⟨n - 1, by omega⟩
    have e1 : (((k + 1 : Nat)) : Int) - 1 = k := by omega
    have e2 : (((k + 1 : Nat)) : Int) + (-1) = k := by omega
    unfold fX10_tell_L22
    rw [iF (by omega), e1, e2, ck_e (by omega) (by omega), rd_e (by omega) (by omega)]
    by_cases c1 : σ 55 k ≤ x
    · rw [iT c1]
      refine ⟨(k + 1 : Nat), σ, rfl, by omega, fun _ _ _ => rfl, fun _ _ _ => ⟨rfl, rfl⟩, fun j _ _ => by omega, fun _ _ => ⟨rfl, rfl⟩, fun j _ _ => by omega, fun _ => by rw [e1]; exact c1⟩
    · rw [iF c1, ck_e (by omega) (by omega), rd_e (by omega) (by omega), wr_e (by omega) (by omega), ck_e (by omega) (by omega), rd_e (by omega) (by omega), put_ne (by decide), wr_e (by omega) (by omega), ck_e (by omega) (by omega)]
      obtain ⟨k', σ', b1, b2, b3, b4, b5, b6, b7, b8⟩ := ih n (put (put σ 55 (k + 1 : Nat) (σ 55 k)) 56 (k + 1 : Nat) (σ 56 k)) (by omega) (by omega)
      have q55 : ∀ j, (put (put σ 55 (k + 1 : Nat) (σ 55 k)) 56 (k + 1 : Nat) (σ 56 k)) 55 j = if j = (k + 1 : Nat) then σ 55 k else σ 55 j := fun j => by rw [put_ne (by decide), put_at]
      have q56 : ∀ j, (put (put σ 55 (k + 1 : Nat) (σ 55 k)) 56 (k + 1 : Nat) (σ 56 k)) 56 j = if j = (k + 1 : Nat) then σ 56 k else σ 56 j := fun j => by rw [put_at, put_ne (by decide)]
      refine ⟨k', σ', b1, by omega, ?_, ?_, ?_, ?_, ?_, ?_⟩
      · intro j j1 j2; rw [b3 j j1 j2, put_ne j2, put_ne j1]
      · intro j j0 j1
        have := b4 j j0 j1
        rw [q55, q56, iF (by omega), iF (by omega)] at this; exact this
      · intro j j0 j1
        by_cases e : j = (k + 1 : Nat)
        · have := b6 j (by omega)
          rw [q55, q56, iT e, iT e] at this
          rw [this.1, this.2, e, e1]; exact ⟨rfl, rfl⟩
        · have := b5 j j0 (by omega)
          rw [q55, q56, iF (by omega), iF (by omega)] at this; exact this
      · intro j j0
        have := b6 j (by omega)
        rw [q55, q56, iF (by omega), iF (by omega)] at this; exact this
      · intro j j0 j1
        by_cases e : j = k
        · rw [e]; omega
        · have := b7 j j0 (by omega)
          rw [q55, iF (by omega)] at this; exact this
      · intro h0
        have := b8 h0
        rw [q55, iF (by omega)] at this; exact this
theorem m_seen (x c : Int) : Mt (fX11_seen x c) (fX12_seen x c) := by
  intro N σ τ R hN
  have S := R.seen
  have hn := S.n
  unfold fX11_seen fX12_seen
  rw [isIn_b]; simp only [bnd_e]
  by_cases hx : 0 ≤ x ∧ x ≤ 20010
  · rw [bi_T hx, iF (show ¬ x < 0 by omega), iT hx.2]; (try simp only [bnd_e, one0, two0, if_false, ↓reduceIte])
    rw [isIn_b]; simp only [bnd_e]
    by_cases hc : 1 ≤ c ∧ c ≤ 9
    · rw [bi_T hc, iF (show ¬ c < 1 by omega), iT hc.2]; (try simp only [bnd_e, one0, two0, if_false, ↓reduceIte])
      by_cases hs : τ 0 36 < 60
      · rw [iT (show σ 54 6 < 60 by omega), iF (show ¬ τ 0 36 = 60 by omega)]
        obtain ⟨k', σ1, b1, b2, b3, b4, b5, b6, b7, b8⟩ := cc_seenL (x := x) (c := c) (m := σ 54 6) (by omega) (σ 54 6).toNat fu σ (by omega) (by unfold fu; omega)
        have em : (((σ 54 6).toNat : Nat) : Int) = σ 54 6 := by omega
        rw [em] at b1 b2 b5 b6 b7
        have tl : fX10_tell x c σ = some (put (put (put σ1 55 k' x) 56 k' c) 54 6 (σ 54 6 + 1)) := by
          unfold fX10_tell
          rw [iF (by omega), iT (by omega), b1]; simp only [bnd_e]
          rw [wr_e (by omega) (by omega), wr_e (by omega) (by omega)]
          simp (disch := decide) only [put_ne]
          rw [b3 54 (by decide) (by decide), ck_e (by omega) (by omega), st1_e]
        rw [tl]; simp only [bnd_e]
        rw [wr_e (by omega) (by omega)]
        simp (disch := decide) only [put_ne]
        rw [wr_e (by omega) (by omega)]
        simp (disch := decide) only [put_ne]
        rw [ck_e (by omega) (by omega), st1_e, put_T rfl, put_T rfl]
        refine ⟨_, _, _, rfl, by rw [hn.1], ?_⟩
        obtain ⟨m, hm⟩ : ∃ m, m = τ 0 36 := ⟨_, rfl⟩
        have hm2 : σ 54 6 = m := by omega
        rw [hm2] at b1 b2 b5 b6 b7 ⊢
        rw [← hm] at hs hn ⊢
        obtain ⟨π, ρ, p1, p2⟩ := S.p
        rw [← hm] at p1 p2
        have Sr := S.r; have Ss := S.s
        rw [← hm] at Sr Ss
        refine Rel.up (Rel.mk (v := ?_) (gap := ?_) (ref := ?_) (seen := ?_) (tape := ?_) (play := ?_))
        · have hv : vw (put (put (put τ 26 m x) 27 m c) 0 36 (m + 1)) = vw τ := rfl
          rw [hv]
          exact RelV_congr R.v (fun j hj => by rw [put_ne (ne_of_mem hj (by decide)), put_ne (ne_of_mem hj (by decide)), put_ne (ne_of_mem hj (by decide)), b3 j (ne_of_mem hj (by decide)) (ne_of_mem hj (by decide))])
        · simp (disch := decide) only [put_ne, put_F]; rw [b3 0 (by decide) (by decide)]; exact R.gap
        · simp (disch := decide) only [put_ne, put_F]; rw [b3 0 (by decide) (by decide)]; exact R.ref
        · rw [put_T rfl, put_T rfl, put_ne (show (55 : Nat) ≠ 54 by decide), put_ne (show (55 : Nat) ≠ 56 by decide), put_ne (show (56 : Nat) ≠ 54 by decide), put_ne (show (26 : Nat) ≠ 0 by decide), put_ne (show (26 : Nat) ≠ 27 by decide), put_ne (show (27 : Nat) ≠ 0 by decide)]
          have t55 : ∀ j : Int, 0 ≤ j → j < m + 1 → put σ1 55 k' x 55 j = if j < k' then σ 55 j else if j = k' then x else σ 55 (j - 1) := by
            intro j j0 j1
            by_cases e : j = k'
            · rw [put_T e, iF (by omega), iT e]
            · rw [put_F e]
              by_cases l : j < k'
              · rw [iT l, (b4 j j0 l).1]
              · rw [iF l, iF e, (b5 j (by omega) (by omega)).1]
          have t56 : ∀ j : Int, 0 ≤ j → j < m + 1 → put (put σ1 55 k' x) 56 k' c 56 j = if j < k' then σ 56 j else if j = k' then c else σ 56 (j - 1) := by
            intro j j0 j1
            by_cases e : j = k'
            · rw [put_T e, iF (by omega), iT e]
            · rw [put_F e, put_ne (by decide)]
              by_cases l : j < k'
              · rw [iT l, (b4 j j0 l).2]
              · rw [iF l, iF e, (b5 j (by omega) (by omega)).2]
          have f26 : ∀ j, put τ 26 m x 26 j = if j = m then x else τ 26 j := fun j => put_at
          have f27 : ∀ j, put (put τ 26 m x) 27 m c 27 j = if j = m then c else τ 27 j := fun j => by rw [put_at, put_ne (by decide)]
          exact (RelS.mk (n := by omega) (r := fun j j0 j1 => by
              by_cases e : j = m
              · rw [f26, f27, iT e, iT e]; omega
              · rw [f26, f27, iF e, iF e]; exact Sr j j0 (by omega)) (s := fun i j i0 ij j1 => by
              rw [t55 i i0 (by omega), t55 j (by omega) j1]
              by_cases e1 : j < k'
              · rw [iT (by omega), iT e1]; exact Ss i j i0 ij (by omega)
              · rw [iF e1]
                by_cases e2 : j = k'
                · rw [iT e2, iT (by omega)]
                  have h8 := b8 (by omega)
                  by_cases e3 : i = k' - 1
                  · rw [e3]; exact h8
                  · have := Ss i (k' - 1) i0 (by omega) (by omega); omega
                · rw [iF e2]
                  have h7 := b7 (j - 1) (by omega) (by omega)
                  by_cases e3 : i < k'
                  · rw [iT e3]; exact Ss i (j - 1) i0 (by omega) (by omega)
                  · rw [iF e3]
                    by_cases e4 : i = k'
                    · rw [iT e4]; omega
                    · rw [iF e4]; exact Ss (i - 1) (j - 1) (by omega) (by omega) (by omega)) (p := by
              refine ⟨fun i => if i < k' then π i else if i = k' then m else π (i - 1), fun i => if i = m then k' else if ρ i < k' then ρ i else ρ i + 1, ?_, ?_⟩
              · intro i i0 i1
                rw [t55 i i0 i1, t56 i i0 i1]
                by_cases e1 : i < k'
                · obtain ⟨x1, x2, x3, x4⟩ := p1 i i0 (by omega)
                  simp only [if_pos e1]
                  have hne : π i ≠ m := by omega
                  rw [f26, f27, iF hne, iF hne, iF hne, x2, iT e1]
                  exact ⟨by omega, rfl, x3, x4⟩
                · simp only [if_neg e1]
                  by_cases e2 : i = k'
                  · simp only [if_pos e2]
                    rw [f26, f27]; simp only [if_true]
                    exact ⟨by omega, by omega, trivial, trivial⟩
                  · obtain ⟨x1, x2, x3, x4⟩ := p1 (i - 1) (by omega) (by omega)
                    simp only [if_neg e2]
                    have hne : π (i - 1) ≠ m := by omega
                    rw [f26, f27, iF hne, iF hne, iF hne, x2, iF (show ¬ i - 1 < k' by omega)]
                    exact ⟨by omega, by omega, x3, x4⟩
              · intro i i0 i1
                by_cases e1 : i = m
                · simp only [if_pos e1]
                  rw [iF (show ¬ k' < k' by omega)]; simp only [if_true]
                  exact ⟨by omega, by omega⟩
                · obtain ⟨x1, x2⟩ := p2 i i0 (by omega)
                  simp only [if_neg e1]
                  by_cases e2 : ρ i < k'
                  · simp only [if_pos e2]
                    exact ⟨by omega, x2⟩
                  · simp only [if_neg e2]
                    rw [iF (by omega), iF (by omega), show ρ i + 1 - 1 = ρ i by omega]
                    exact ⟨by omega, x2⟩))
        · exact tape_congr R.tape (fun j h => by rw [put_ne (by omega), put_ne (by omega), put_ne (by omega), b3 j (by omega) (by omega)]) (fun j h _ => by rw [put_ne (by omega), put_ne (by omega), put_ne (by omega)])
        · rcases R.play with h | ⟨h1, h2⟩
          · exact .inl (by rw [put_F (by decide), put_ne (by decide), put_ne (by decide)]; exact h)
          · exact .inr ⟨by rw [put_F (by decide), put_ne (by decide), put_ne (by decide)]; exact h1, h2⟩
      · rw [iF (show ¬ σ 54 6 < 60 by omega), iT (show τ 0 36 = 60 by omega)]; exact no_ch R
    · rw [bi_F hc]
      by_cases h0 : c < 1
      · rw [iT h0]; exact no_ch R
      · rw [iF h0, iF (show ¬ c ≤ 9 by omega)]; exact no_ch R
  · rw [bi_F hx]
    by_cases h0 : x < 0
    · rw [iT h0]; exact no_ch R
    · rw [iF h0, iF (show ¬ x ≤ 20010 by omega)]; exact no_ch R
theorem m_unseen : Mt fX11_unseen fX12_unseen := by
  intro N σ τ R hN
  unfold fX11_unseen fX12_unseen
  rw [st1_e, st1_e]
  refine ⟨_, _, _, rfl, by rw [R.seen.n.1], ?_⟩
  refine Rel.up (Rel.mk (v := ?_) (gap := ?_) (ref := ?_) (seen := ?_) (tape := ?_) (play := ?_))
  · have hv : vw (put τ 0 36 0) = vw τ := rfl
    rw [hv]; exact RelV_congr R.v (fun j hj => put_ne (ne_of_mem hj (by decide)))
  · rw [put_ne (by decide), put_F (by decide)]; exact R.gap
  · rw [put_ne (by decide), put_F (by decide)]; exact R.ref
  · rw [put_T rfl, put_T rfl]; exact RelS_0
  · exact tape_congr R.tape (fun j h => put_ne (by omega)) (fun j h _ => put_ne (by omega))
  · rcases R.play with h | ⟨h1, h2⟩
    · exact .inl (by rw [put_F (by decide)]; exact h)
    · exact .inr ⟨by rw [put_F (by decide)]; exact h1, h2⟩
theorem m_count (x : Int) : Mp (fX11_count x) (fX12_count x) := by
  intro N σ τ R
  have v := R.v
  have hn := v.n
  dsimp only [vw] at hn
  unfold fX11_count fX12_count
  by_cases x0 : x = 0
  · rw [iT x0, iT x0]
    have l1 := cnt (L := fun n a i => fX2_number_L4 n a i σ) (m := 12) (g := fun i => bi (told (vw τ) i)) (fun j => bi_rng)
      (fun n a i i0 i1 a0 a1 => by
        have e := (v.k i i0 i1).1.1
        conv => lhs; unfold fX2_number_L4
        rw [iT i1, rd_e i0 (by omega), e]
        by_cases c : 0 < (vw τ).1.2.1 i
        · rw [iF (by omega), bi_T ⟨⟨i0, i1⟩, c⟩]; unfold fX2_number_L4P22; (try simp (disch := omega) only [↓ck_e, ↓rd_e, ↓wr_e, ↓wrB_e, ↓wrZ_e, ↓dv_e, ↓md_e, ↓fdv_e, ↓cpy_e, ↓filB_e, ↓filI_e, ↓filL_e, ↓st1_e, ↓bnd_e, ↓iT, ↓iF, ↓reduceIte, put_ne, put_T, put_F, isIn_T, isIn_F])
        · rw [iT (by omega), bi_F (fun y => c y.2)]; unfold fX2_number_L4P22; (try simp (disch := omega) only [↓ck_e, ↓rd_e, ↓wr_e, ↓wrB_e, ↓wrZ_e, ↓dv_e, ↓md_e, ↓fdv_e, ↓cpy_e, ↓filB_e, ↓filI_e, ↓filL_e, ↓st1_e, ↓bnd_e, ↓iT, ↓iF, ↓reduceIte, put_ne, put_T, put_F, isIn_T, isIn_F]); rw [show a + 0 = a by omega])
      (fun n a i i0 => by unfold fX2_number_L4; rw [iF (by omega)]) fu 0 0 (by omega) (by omega) (by omega) (by rw [fu_i]; omega) fu_pos
    have l2 := cnt (L := fun n a i => fX12_count_L50 n a i τ) (m := 12) (g := fun i => bi (told (vw τ) i)) (fun j => bi_rng)
      (fun n a i i0 i1 a0 a1 => by
        conv => lhs; unfold fX12_count_L50
        rw [iT i1, rr_isKind]; simp only [bnd_e]
        by_cases c : told (vw τ) i
        · rw [bi_T c, iF (by decide)]; unfold fX12_count_L50P70; (try simp (disch := omega) only [↓ck_e, ↓rd_e, ↓wr_e, ↓wrB_e, ↓wrZ_e, ↓dv_e, ↓md_e, ↓fdv_e, ↓cpy_e, ↓filB_e, ↓filI_e, ↓filL_e, ↓st1_e, ↓bnd_e, ↓iT, ↓iF, ↓reduceIte, put_ne, put_T, put_F, isIn_T, isIn_F])
        · rw [bi_F c, iT rfl]; unfold fX12_count_L50P70; (try simp (disch := omega) only [↓ck_e, ↓rd_e, ↓wr_e, ↓wrB_e, ↓wrZ_e, ↓dv_e, ↓md_e, ↓fdv_e, ↓cpy_e, ↓filB_e, ↓filI_e, ↓filL_e, ↓st1_e, ↓bnd_e, ↓iT, ↓iF, ↓reduceIte, put_ne, put_T, put_F, isIn_T, isIn_F]))
      (fun n a i i0 => by unfold fX12_count_L50; rw [iF (by omega)]) fu 0 0 (by omega) (by omega) (by omega) (by rw [fu_i]; omega) fu_pos
    unfold fX2_number
    rw [l1, l2]; exact ⟨_, rfl, rfl⟩
  · rw [iF x0, iF x0]
    by_cases x1 : x = 1
    · rw [iT x1, iT x1]
      have l1 := cnt (L := fun n a i => fX8_bargesTold_L4 n a i σ) (m := 6) (g := fun i => bi (isB (vw τ) i)) (fun j => bi_rng)
        (fun n a i i0 i1 a0 a1 => by
          have e := (v.b i i0 i1).1
          conv => lhs; unfold fX8_bargesTold_L4
          rw [iT i1, rd_e i0 (by omega), e]
          by_cases c : 0 < (vw τ).2.1.2.2.2.2 i
          · rw [iF (by omega), bi_T ⟨⟨i0, i1⟩, c⟩]; unfold fX8_bargesTold_L4P22; (try simp (disch := omega) only [↓ck_e, ↓rd_e, ↓wr_e, ↓wrB_e, ↓wrZ_e, ↓dv_e, ↓md_e, ↓fdv_e, ↓cpy_e, ↓filB_e, ↓filI_e, ↓filL_e, ↓st1_e, ↓bnd_e, ↓iT, ↓iF, ↓reduceIte, put_ne, put_T, put_F, isIn_T, isIn_F])
          · rw [iT (by omega), bi_F (fun y => c y.2)]; unfold fX8_bargesTold_L4P22; (try simp (disch := omega) only [↓ck_e, ↓rd_e, ↓wr_e, ↓wrB_e, ↓wrZ_e, ↓dv_e, ↓md_e, ↓fdv_e, ↓cpy_e, ↓filB_e, ↓filI_e, ↓filL_e, ↓st1_e, ↓bnd_e, ↓iT, ↓iF, ↓reduceIte, put_ne, put_T, put_F, isIn_T, isIn_F]); rw [show a + 0 = a by omega])
        (fun n a i i0 => by unfold fX8_bargesTold_L4; rw [iF (by omega)]) fu 0 0 (by omega) (by omega) (by omega) (by rw [fu_i]; omega) fu_pos
      have l2 := cnt (L := fun n a i => fX12_count_L82 n a i τ) (m := 6) (g := fun i => bi (isB (vw τ) i)) (fun j => bi_rng)
        (fun n a i i0 i1 a0 a1 => by
          conv => lhs; unfold fX12_count_L82
          rw [iT i1, rr_isBarge]; simp only [bnd_e]
          by_cases c : isB (vw τ) i
          · rw [bi_T c, iF (by decide)]; unfold fX12_count_L82P102; (try simp (disch := omega) only [↓ck_e, ↓rd_e, ↓wr_e, ↓wrB_e, ↓wrZ_e, ↓dv_e, ↓md_e, ↓fdv_e, ↓cpy_e, ↓filB_e, ↓filI_e, ↓filL_e, ↓st1_e, ↓bnd_e, ↓iT, ↓iF, ↓reduceIte, put_ne, put_T, put_F, isIn_T, isIn_F])
          · rw [bi_F c, iT rfl]; unfold fX12_count_L82P102; (try simp (disch := omega) only [↓ck_e, ↓rd_e, ↓wr_e, ↓wrB_e, ↓wrZ_e, ↓dv_e, ↓md_e, ↓fdv_e, ↓cpy_e, ↓filB_e, ↓filI_e, ↓filL_e, ↓st1_e, ↓bnd_e, ↓iT, ↓iF, ↓reduceIte, put_ne, put_T, put_F, isIn_T, isIn_F]))
        (fun n a i i0 => by unfold fX12_count_L82; rw [iF (by omega)]) fu 0 0 (by omega) (by omega) (by omega) (by rw [fu_i]; omega) fu_pos
      unfold fX8_bargesTold
      rw [l1, l2]; exact ⟨_, rfl, rfl⟩
    · rw [iF x1, iF x1]
      by_cases x2 : x = 2
      · rw [iT x2, iT x2]; exact ⟨_, rfl, by rw [hn.1]⟩
      · rw [iF x2, iF x2]
        by_cases x3 : x = 3
        · rw [iT x3, iT x3]
          have l1 := cc_openT (σ := σ) (t := 19) (m := τ 0 32) hn (f := τ 15) (fun c c0 c1 => (v.c c c0 c1).1.2.2.1)
          have l2 := cnt (L := fun n a i => fX12_count_L119 n a i τ) (m := τ 0 32) (g := fun c => bi (τ 15 c = -1)) (fun j => bi_rng)
            (fun n a i i0 i1 a0 a1 => by
              have e := (v.c i i0 i1).2.2.1
              unfold isB at e
              dsimp only [vw] at e
              conv => lhs; unfold fX12_count_L119
              rw [iT i1, rd_e i0 (by omega)]
              by_cases c : τ 15 i = -1
              · rw [iT (by omega), bi_T c]; unfold fX12_count_L119P142; (try simp (disch := omega) only [↓ck_e, ↓rd_e, ↓wr_e, ↓wrB_e, ↓wrZ_e, ↓dv_e, ↓md_e, ↓fdv_e, ↓cpy_e, ↓filB_e, ↓filI_e, ↓filL_e, ↓st1_e, ↓bnd_e, ↓iT, ↓iF, ↓reduceIte, put_ne, put_T, put_F, isIn_T, isIn_F])
              · rw [iF (by omega), bi_F c]; unfold fX12_count_L119P142; (try simp (disch := omega) only [↓ck_e, ↓rd_e, ↓wr_e, ↓wrB_e, ↓wrZ_e, ↓dv_e, ↓md_e, ↓fdv_e, ↓cpy_e, ↓filB_e, ↓filI_e, ↓filL_e, ↓st1_e, ↓bnd_e, ↓iT, ↓iF, ↓reduceIte, put_ne, put_T, put_F, isIn_T, isIn_F]))
            (fun n a i i0 => by unfold fX12_count_L119; rw [iF (by omega)]) fu 0 0 (by omega) (by omega) (by omega) (by rw [fu_i]; omega) fu_pos
          rw [l1, l2, show τ 0 32 - 0 = τ 0 32 by omega]
          refine ⟨_, rfl, ?_⟩
          simp only [bnd_e]; congr 1; omega
        · rw [iF x3, iF x3]
          by_cases x4 : x = 4
          · rw [iT x4, iT x4]; exact ⟨_, rfl, by rw [v.m.1.1]⟩
          · rw [iF x4, iF x4]
            by_cases x5 : x = 5
            · rw [iT x5, iT x5]; exact ⟨_, rfl, by rw [v.r.1.1]⟩
            · rw [iF x5, iF x5]
              by_cases x6 : x = 6
              · rw [iT x6, iT x6]; exact ⟨_, rfl, by rw [R.seen.n.1]⟩
              · rw [iF x6, iF x6]
                by_cases x7 : x = 7
                · rw [iT x7, iT x7]; exact ⟨_, rfl, by rw [R.ref.1]⟩
                · rw [iF x7, iF x7]; exact ⟨_, rfl, rfl⟩
end

