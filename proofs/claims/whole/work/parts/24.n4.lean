section
set_option linter.unusedVariables false
variable {σ τ : Sg} {V : Vw} {N : Int}
theorem toI_all : ∀ x : Fin 256, toI ((x.val : Int) - 128) = (x.val : Int) - 128 := by decide +kernel
theorem toI_e {x : Int} (h0 : -128 ≤ x) (h1 : x ≤ 127) : toI x = x := by
  have := toI_all ⟨(x + 128).toNat, by omega⟩
  simp only [Int.toNat_of_nonneg (show 0 ≤ x + 128 by omega)] at this
  rw [show x + 128 - 128 = x by omega] at this
  exact this

abbrev Byt (σ τ : Sg) (d : Int) (w : Int → Int) (len : Int) : Prop := (0 ≤ d ∧ d < 6) ∧ (τ 29 d = len ∧ 0 ≤ len ∧ len ≤ 100) ∧ (σ (tpO d) 1 = len) ∧ (∀ i, 0 ≤ i → i < 100 → σ (tpO d + 1) i = w i ∧ τ 31 (100 * d + i) = w i ∧ -128 ≤ w i ∧ w i ≤ 127)
theorem Byt.hd {σ τ : Sg} {d : Int} {w : Int → Int} {len : Int} (h : Byt σ τ d w len) : 0 ≤ d ∧ d < 6 := h.1
theorem Byt.s {σ τ : Sg} {d : Int} {w : Int → Int} {len : Int} (h : Byt σ τ d w len) : τ 29 d = len ∧ 0 ≤ len ∧ len ≤ 100 := h.2.1
theorem Byt.c {σ τ : Sg} {d : Int} {w : Int → Int} {len : Int} (h : Byt σ τ d w len) : σ (tpO d) 1 = len := h.2.2.1
theorem Byt.r {σ τ : Sg} {d : Int} {w : Int → Int} {len : Int} (h : Byt σ τ d w len) : ∀ i, 0 ≤ i → i < 100 → σ (tpO d + 1) i = w i ∧ τ 31 (100 * d + i) = w i ∧ -128 ≤ w i ∧ w i ≤ 127 := h.2.2.2
theorem Byt.mk {σ τ : Sg} {d : Int} {w : Int → Int} {len : Int} (hd : 0 ≤ d ∧ d < 6) (s : τ 29 d = len ∧ 0 ≤ len ∧ len ≤ 100) (c : σ (tpO d) 1 = len) (r : ∀ i, 0 ≤ i → i < 100 → σ (tpO d + 1) i = w i ∧ τ 31 (100 * d + i) = w i ∧ -128 ≤ w i ∧ w i ≤ 127) : Byt σ τ d w len := ⟨hd, s, c, r⟩
theorem Byt_of {d : Int} (R : Rel N σ τ) (hd : 0 ≤ d ∧ d < 6) (hs : τ 28 d = 1) : Byt σ τ d (fun i => τ 31 (100 * d + i)) (τ 29 d) := by
  have T := R.tape d hd.1 hd.2
  have le := T.le (by omega) (by omega)
  exact ⟨hd, ⟨rfl, le.2⟩, le.1, fun i i0 i1 => ⟨T.row i i0 i1, rfl, T.by' hs i i0 i1⟩⟩
theorem Byt.congr {σ' τ' : Sg} {d len : Int} {w : Int → Int} (B : Byt σ τ d w len) (h1 : ∀ j, 59 ≤ j → σ' j = σ j) (h2 : τ' 29 = τ 29) (h3 : τ' 31 = τ 31) : Byt σ' τ' d w len := by
  have := tpO_ge (d := d)
  exact ⟨B.hd, by rw [h2]; exact B.s, by rw [h1 _ (by omega)]; exact B.c, by rw [h1 _ (by omega), h3]; exact B.r⟩
theorem cc_num {d len : Int} {w : Int → Int} (B : Byt σ τ d w len) {i : Int} (h0 : 0 ≤ i) (h1 : i < len) : fX9_numberAt (tpO d) i σ = some (w i) := by
  have hs := B.s; have hc := B.c
  obtain ⟨a, b, c⟩ := B.r i h0 (by omega)
  unfold fX9_numberAt fX9_valueAt
  rw [hasPlace_e, bi_T (by omega)]; simp only [bnd_e]
  rw [iF (by decide), rd_e h0 (by omega), a]; simp only [bnd_e]
  rw [toI_e c.1 c.2]
theorem cc_num0 {d len : Int} {w : Int → Int} (B : Byt σ τ d w len) {i : Int} (h1 : ¬ (0 ≤ i ∧ i < len)) : fX9_numberAt (tpO d) i σ = some 0 := by
  have hs := B.s; have hc := B.c
  unfold fX9_numberAt fX9_valueAt
  rw [hasPlace_e, bi_F (by omega)]; simp only [bnd_e]
  simp only [if_true, bnd_e]
  rw [toI_e (by omega) (by omega)]
theorem rr_word {d len : Int} {w : Int → Int} (B : Byt σ τ d w len) {i : Int} (h0 : 0 ≤ i) (h1 : i < 100) : fX12_word d i τ = some (w i) := by
  have hd := B.hd
  obtain ⟨a, b, c⟩ := B.r i h0 h1
  unfold fX12_word
  rw [ck_e (by omega) (by omega), ck_e (by omega) (by omega), rd_e (by omega) (by omega), b, toI_e c.1 c.2]

def welO (w : Int → Int) (len : Int) : Nat → Int → Int → Prop
  | 0, k, d => k < len ∧ w k = 0 ∧ d = 1
  | n + 1, k, d => k < len ∧ (1 ≤ w k ∧ w k ≤ 8) ∧ (0 ≤ d ∧ d ≤ 8) ∧
    (w k ≤ 5 → (0 ≤ w (k + 1) ∧ w (k + 1) ≤ 127) ∧ k + 1 < len ∧ d < 8 ∧ welO w len n (k + 2) (d + 1)) ∧
    (w k = 8 → 1 ≤ d ∧ welO w len n (k + 1) d) ∧
    (w k = 6 ∨ w k = 7 → 2 ≤ d ∧ welO w len n (k + 1) (d - 1))
def ffC (n t : Nat) (k d : Int) (σ : Sg) : Option (Int × Sg) := (fX5_firstFault_L9 n t k d σ).bind (Sum.elim (fun a52 =>
    if a52.2.1 = 1 then (
      some ((-1), a52.2.2))
    else (
      some (a52.1, a52.2.2))) (Sum.elim (fun a57 =>
    some (a57.1, a57.2)) (Sum.elim (fun a60 =>
    some (a60.1, a60.2)) (Sum.elim (fun a63 =>
    some (a63.1, a63.2)) (fun a66 =>
    some ((a66 t 1), a66))))))
def ffR (n : Nat) (d c e k : Int) (τ : Sg) : Option Int := (fX12_orders_L7 n d c e k τ).bind (Sum.elim (fun a85 =>
    ck ((-1) - a85) fun v87 =>
    some v87) (Sum.elim (fun a89 =>
    some a89) (fun a91 =>
    rd τ 29 6 d fun v92 =>
    ck ((-1) - v92) fun v94 =>
    some v94)))
theorem takes_e {o : Int} : fX5_takes o σ = some (if o ≤ 5 then 0 else if o = 8 then 1 else 2) := by
  unfold fX5_takes
  split
  · rfl
  split <;> rfl

theorem ff_step {d len : Int} {w : Int → Int} (B : Byt σ τ d w len) {n : Nat} {k e c : Int} (hk : 0 ≤ k) (he : 0 ≤ e ∧ e ≤ 8) (hc : σ 44 4 = c) (hc1 : 0 ≤ c ∧ c ≤ k) :
    (ffC (n + 1) (tpO d) k e σ = some (if k < len then k else len, σ) ∧ ffR (n + 1) d c e k τ = some (-1 - (if k < len then k else len))) ∨
    (k < len ∧ w k = 0 ∧ e = 1 ∧ ffC (n + 1) (tpO d) k e σ = some (-1, σ) ∧ ffR (n + 1) d c e k τ = some c) ∨
    (k < len ∧ (1 ≤ w k ∧ w k ≤ 8) ∧ ∃ k' e', (0 ≤ e' ∧ e' ≤ 8) ∧ (k < k' ∧ k' ≤ 101) ∧ (w k ≤ 5 → k' = k + 2 ∧ k + 1 < len ∧ (0 ≤ w (k + 1) ∧ w (k + 1) ≤ 127) ∧ e < 8 ∧ e' = e + 1) ∧ (w k = 8 → k' = k + 1 ∧ 1 ≤ e ∧ e' = e) ∧ (w k = 6 ∨ w k = 7 → k' = k + 1 ∧ 2 ≤ e ∧ e' = e - 1) ∧
      ffC (n + 1) (tpO d) k e σ = ffC n (tpO d) k' e' (put σ 44 4 (c + 1)) ∧ ffR (n + 1) d c e k τ = ffR n d (c + 1) e' k' τ) := by
  have hs := B.s; have hcl := B.c; have hd := B.hd
  unfold ffC ffR
  by_cases kl : k < len
  · have hw := (B.r k hk (by omega)).2.2
    rw [iT kl]
    by_cases o0 : w k = 0
    · by_cases e1 : e = 1
      · refine .inr (.inl ⟨kl, o0, e1, ?_, ?_⟩)
        · unfold fX5_firstFault_L9
          rw [iT (by omega), cc_num B hk kl]; simp only [bnd_e]; rw [iT o0]; simp only [bnd_e, Sum.elim_inl]; rw [iT e1]
        · unfold fX12_orders_L7
          rw [rd_e hd.1 (by omega), iT (by omega), rr_word B hk (by omega)]; simp only [bnd_e]
          rw [isIn_F (by omega)]; simp only [bnd_e, if_true]
          unfold fX12_orders_L7P42
          rw [isIn_T (by omega) (by omega)]; simp only [bnd_e]; rw [iF (by decide), ck_e (by omega) (by omega), rd_e hd.1 (by omega), iT (by omega), if_pos trivial]
          unfold fX12_orders_L7P86 fX12_orders_L7P91
          rw [iF (by decide), iT o0, iT e1]
          unfold fX12_orders_L7P165 fX12_orders_L7P167
          rw [iF (by decide), iT o0]; rfl
      · refine .inl ⟨?_, ?_⟩
        · unfold fX5_firstFault_L9
          rw [iT (by omega), cc_num B hk kl]; simp only [bnd_e]; rw [iT o0]; simp only [bnd_e, Sum.elim_inl]; rw [iF e1]
        · unfold fX12_orders_L7
          rw [rd_e hd.1 (by omega), iT (by omega), rr_word B hk (by omega)]; simp only [bnd_e]
          rw [isIn_F (by omega)]; simp only [bnd_e, if_true]
          unfold fX12_orders_L7P42
          rw [isIn_T (by omega) (by omega)]; simp only [bnd_e]; rw [iF (by decide), ck_e (by omega) (by omega), rd_e hd.1 (by omega), iT (by omega), if_pos trivial]
          unfold fX12_orders_L7P86 fX12_orders_L7P91
          rw [iF (by decide), iT o0, iF e1]
          unfold fX12_orders_L7P165 fX12_orders_L7P167
          rw [iT rfl]; simp only [bnd_e, Sum.elim_inl]; rw [ck_e (by omega) (by omega)]
    · by_cases oin : 1 ≤ w k ∧ w k ≤ 8
      · 
        have cls : fX5_firstFault_L9 (n + 1) (tpO d) k e σ = if e < (if w k ≤ 5 then 0 else if w k = 8 then 1 else 2) then some (.inr (.inl (k, σ))) else if w k ≤ 5 then (if k + 1 < len then (if w (k + 1) < 0 then some (.inr (.inr (.inl (k, σ)))) else fX5_firstFault_L9P91 (fX5_firstFault_L9 n) (tpO d) k e (w k) σ) else some (.inr (.inr (.inl (k, σ))))) else fX5_firstFault_L9P91 (fX5_firstFault_L9 n) (tpO d) k e (w k) σ := by
          conv => lhs; unfold fX5_firstFault_L9
          rw [iT (by omega), cc_num B hk kl]; simp only [bnd_e]; rw [iF o0, iF (by omega), iT oin.2, takes_e]; simp only [bnd_e]
          by_cases c1 : e < (if w k ≤ 5 then 0 else if w k = 8 then 1 else 2)
          · rw [iT c1, iT c1]
          · rw [iF c1, iF c1]
            by_cases c2 : w k ≤ 5
            · rw [iT c2, iT c2, ck_e (by omega) (by omega), hcl]
              by_cases c3 : k + 1 < len
              · rw [iT c3, iT c3, ck_e (by omega) (by omega), cc_num B (by omega) c3]; simp only [bnd_e]
              · rw [iF c3, iF c3]
            · rw [iF c2, iF c2]
        have clsN : ∀ k' e', (0 ≤ e' ∧ e' ≤ 8) → (w k ≤ 5 → k' = k + 2 ∧ e' = e + 1) → (w k = 8 → k' = k + 1 ∧ e' = e) → (w k = 6 ∨ w k = 7 → k' = k + 1 ∧ e' = e - 1) → fX5_firstFault_L9P91 (fX5_firstFault_L9 n) (tpO d) k e (w k) σ = fX5_firstFault_L9 n (tpO d) k' e' (put σ 44 4 (c + 1)) := by
          intro k' e' he' a1 a2 a3
          unfold fX5_firstFault_L9P91 fX5_firstFault_L9P121
          rw [takes_e]; simp only [bnd_e]
          by_cases c2 : w k ≤ 5
          · obtain ⟨rfl, rfl⟩ := a1 c2
            rw [iT c2, ck_e (by omega) (by omega), ck_e (by omega) (by omega), iT (by omega), iT c2, ck_e (by omega) (by omega), hc, ck_e (by omega) (by omega), st1_e, show e + (1 - 0) = e + 1 by omega]
          · rw [iF c2]
            by_cases c8 : w k = 8
            · obtain ⟨rfl, rfl⟩ := a2 c8
              rw [iT c8, ck_e (by omega) (by omega), ck_e (by omega) (by omega), iT (by omega), iF c2, ck_e (by omega) (by omega), hc, ck_e (by omega) (by omega), st1_e, show e' + (1 - 1) = e' by omega]
            · obtain ⟨rfl, rfl⟩ := a3 (by omega)
              rw [iF c8, ck_e (by omega) (by omega), ck_e (by omega) (by omega), iT (by omega), iF c2, ck_e (by omega) (by omega), hc, ck_e (by omega) (by omega), st1_e, show e + (1 - 2) = e - 1 by omega]
        by_cases c5 : w k ≤ 5
        · 
          have rr0 : fX12_orders_L7 (n + 1) d c e k τ = fX12_orders_L7P42 (fX12_orders_L7 n) d c e k (w k) 1 τ := by
            conv => lhs; unfold fX12_orders_L7
            rw [rd_e hd.1 (by omega), iT (by omega), rr_word B hk (by omega)]; simp only [bnd_e]
            rw [isIn_T (by omega) (by omega)]; simp only [bnd_e]; rw [iF (by decide)]
          have bad : fX12_orders_L7P42 (fX12_orders_L7 n) d c e k (w k) 1 τ = some (.inl k) → (∃ z, (z = .inr (.inl (k, σ)) ∨ z = .inr (.inr (.inl (k, σ))) ∨ z = .inr (.inr (.inr (.inl (k, σ))))) ∧ fX5_firstFault_L9 (n + 1) (tpO d) k e σ = some z) → (fX5_firstFault_L9 (n + 1) (tpO d) k e σ).bind (Sum.elim (fun a52 => if a52.2.1 = 1 then some ((-1), a52.2.2) else some (a52.1, a52.2.2)) (Sum.elim (fun a57 => some (a57.1, a57.2)) (Sum.elim (fun a60 => some (a60.1, a60.2)) (Sum.elim (fun a63 => some (a63.1, a63.2)) (fun a66 => some ((a66 (tpO d) 1), a66)))))) = some (k, σ) ∧ ((fX12_orders_L7 (n + 1) d c e k τ).bind (Sum.elim (fun a85 => ck ((-1) - a85) fun v87 => some v87) (Sum.elim (fun a89 => some a89) (fun a91 => rd τ 29 6 d fun v92 => ck ((-1) - v92) fun v94 => some v94)))) = some (-1 - k) := by
            intro h1 h2
            obtain ⟨z, hz, e1⟩ := h2
            rw [e1, rr0, h1]
            refine ⟨by rcases hz with rfl | rfl | rfl <;> rfl, ?_⟩
            simp only [bnd_e, Sum.elim_inl]; rw [ck_e (by omega) (by omega)]
          have p90 : fX12_orders_L7P90 (fX12_orders_L7 n) d c e k (w k) 1 τ = some (.inl k) := by
            unfold fX12_orders_L7P90 fX12_orders_L7P91 fX12_orders_L7P167; rw [iT rfl, iT rfl]
          by_cases c3 : k + 1 < len
          · have hw1 := (B.r (k + 1) (by omega) (by omega)).2.2
            by_cases c4 : w (k + 1) < 0
            · refine .inl (bad ?_ ?_)
              · unfold fX12_orders_L7P42
                rw [isIn_T (by omega) (by omega)]; simp only [bnd_e]; rw [iF (by decide), ck_e (by omega) (by omega), rd_e hd.1 (by omega), iT (by omega), iF (by decide), ck_e (by omega) (by omega), rr_word B (by omega) (by omega)]; simp only [bnd_e]
                rw [iT c4]; exact p90
              · refine ⟨.inr (.inr (.inl (k, σ))), .inr (.inl rfl), ?_⟩
                rw [cls, iT c5, iF (by omega), iT c5, iT c3, iT c4]
            · have r2 : fX12_orders_L7P42 (fX12_orders_L7 n) d c e k (w k) 1 τ = if e < 8 then fX12_orders_L7 n d (c + 1) (e + 1) (k + 2) τ else some (.inl k) := by
                unfold fX12_orders_L7P42
                rw [isIn_T (by omega) (by omega)]; simp only [bnd_e]; rw [iF (by decide), ck_e (by omega) (by omega), rd_e hd.1 (by omega), iT (by omega), iF (by decide), ck_e (by omega) (by omega), rr_word B (by omega) (by omega)]; simp only [bnd_e]
                rw [iF c4]
                unfold fX12_orders_L7P86 fX12_orders_L7P91
                rw [iF (by decide), iF o0, iT rfl]
                unfold fX12_orders_L7P165 fX12_orders_L7P167
                by_cases h8 : e < 8
                · rw [iT h8, iT h8, iF (by decide), iF o0, iT rfl]
                  unfold fX12_orders_L7P207
                  rw [ck_e (by omega) (by omega), ck_e (by omega) (by omega), ck_e (by omega) (by omega), ck_e (by omega) (by omega), show k + (1 + 1) = k + 2 by omega]
                · rw [iF h8, iF h8, iT rfl]
              by_cases h8 : e < 8
              · refine .inr (.inr ⟨kl, oin, k + 2, e + 1, by omega, by omega, fun _ => ⟨rfl, c3, by omega, h8, rfl⟩, fun x => by omega, fun x => by omega, ?_, ?_⟩)
                · rw [cls, iT c5, iF (by omega), iT c5, iT c3, iF c4, clsN (k + 2) (e + 1) (by omega) (fun _ => ⟨rfl, rfl⟩) (fun x => by omega) (fun x => by omega)]
                · rw [rr0, r2, iT h8]
              · refine .inl (bad (by rw [r2, iF h8]) ?_)
                refine ⟨.inr (.inr (.inr (.inl (k, σ)))), .inr (.inr rfl), ?_⟩
                rw [cls, iT c5, iF (by omega), iT c5, iT c3, iF c4]
                unfold fX5_firstFault_L9P91
                rw [takes_e]; simp only [bnd_e]; rw [iT c5, ck_e (by omega) (by omega), ck_e (by omega) (by omega), iF (by omega)]
          · refine .inl (bad ?_ ?_)
            · unfold fX12_orders_L7P42
              rw [isIn_T (by omega) (by omega)]; simp only [bnd_e]; rw [iF (by decide), ck_e (by omega) (by omega), rd_e hd.1 (by omega), iF (by omega)]; exact p90
            · refine ⟨.inr (.inr (.inl (k, σ))), .inr (.inl rfl), ?_⟩
              rw [cls, iT c5, iF (by omega), iT c5, iF c3]
        · have rr0 : fX12_orders_L7 (n + 1) d c e k τ = if e ≤ (if w k = 8 then (0 : Int) else 1) then some (.inl k) else fX12_orders_L7 n d (c + 1) (if w k = 8 then e else e - 1) (k + 1) τ := by
            conv => lhs; unfold fX12_orders_L7
            rw [rd_e hd.1 (by omega), iT (by omega), rr_word B hk (by omega)]; simp only [bnd_e]
            rw [isIn_F (by omega)]; simp only [bnd_e, if_true]
            unfold fX12_orders_L7P42
            rw [isIn_T (by omega) (by omega)]; simp only [bnd_e]; rw [iF (by decide), ck_e (by omega) (by omega), rd_e hd.1 (by omega), iT (by omega), if_pos trivial]
            unfold fX12_orders_L7P86 fX12_orders_L7P91
            rw [iF (by decide), iF o0, iF (by decide)]
            unfold fX12_orders_L7P165 fX12_orders_L7P167 fX12_orders_L7P207
            have z10 : ¬ (1 : Int) = 0 := by decide
            have z01 : ¬ (0 : Int) = 1 := by decide
            by_cases c8 : w k = 8
            · simp only [if_pos c8]
              by_cases c9 : e ≤ 0
              · simp only [if_pos c9, if_true]
              · simp only [if_neg c9, if_neg o0, if_neg z10, if_neg z01]
                rw [ck_e (by omega) (by omega), ck_e (by omega) (by omega), ck_e (by omega) (by omega), ck_e (by omega) (by omega), show e + 0 = e by omega, show k + (0 + 1) = k + 1 by omega]
            · simp only [if_neg c8]
              by_cases c9 : e ≤ 1
              · simp only [if_pos c9, if_true]
              · simp only [if_neg c9, if_neg o0, if_neg z10, if_neg z01]
                rw [ck_e (by omega) (by omega), ck_e (by omega) (by omega), ck_e (by omega) (by omega), ck_e (by omega) (by omega), show e + -1 = e - 1 by omega, show k + (0 + 1) = k + 1 by omega]
          by_cases c8 : w k = 8
          · by_cases c9 : e ≤ 0
            · refine .inl ⟨?_, ?_⟩
              · rw [cls, iF c5, iT c8, iT (by omega)]; rfl
              · rw [rr0, iT (by rw [if_pos c8]; exact c9)]; simp only [bnd_e, Sum.elim_inl]; rw [ck_e (by omega) (by omega)]
            · refine .inr (.inr ⟨kl, oin, k + 1, e, by omega, by omega, fun x => by omega, fun _ => ⟨rfl, by omega, rfl⟩, fun x => by omega, ?_, ?_⟩)
              · rw [cls, iF c5, iT c8, iF (by omega), iF c5, clsN (k + 1) e (by omega) (fun x => by omega) (fun _ => ⟨rfl, rfl⟩) (fun x => by omega)]
              · rw [rr0, iF (by rw [if_pos c8]; exact c9), iT c8]
          · by_cases c9 : e ≤ 1
            · refine .inl ⟨?_, ?_⟩
              · rw [cls, iF c5, iF c8, iT (by omega)]; rfl
              · rw [rr0, iT (by rw [if_neg c8]; exact c9)]; simp only [bnd_e, Sum.elim_inl]; rw [ck_e (by omega) (by omega)]
            · refine .inr (.inr ⟨kl, oin, k + 1, e - 1, by omega, by omega, fun x => by omega, fun x => by omega, fun _ => ⟨rfl, by omega, rfl⟩, ?_, ?_⟩)
              · rw [cls, iF c5, iF c8, iF (by omega), iF c5, clsN (k + 1) (e - 1) (by omega) (fun x => by omega) (fun x => by omega) (fun _ => ⟨rfl, rfl⟩)]
              · rw [rr0, iF (by rw [if_neg c8]; exact c9), iF c8]
      · refine .inl ⟨?_, ?_⟩
        · unfold fX5_firstFault_L9
          rw [iT (by omega), cc_num B hk kl]; simp only [bnd_e]; rw [iF o0]
          by_cases h0 : w k < 0
          · rw [iT h0]; rfl
          · rw [iF h0, iF (by omega)]; rfl
        · unfold fX12_orders_L7
          rw [rd_e hd.1 (by omega), iT (by omega), rr_word B hk (by omega)]; simp only [bnd_e]
          rw [isIn_F (by omega)]; simp only [bnd_e, if_true]
          unfold fX12_orders_L7P42
          rw [isIn_F (by omega)]; simp only [bnd_e, if_true]
          unfold fX12_orders_L7P90 fX12_orders_L7P91 fX12_orders_L7P167
          rw [iT rfl, iT rfl]; simp only [bnd_e, Sum.elim_inl]; rw [ck_e (by omega) (by omega)]
  · rw [iF kl]
    refine .inl ⟨?_, ?_⟩
    · unfold fX5_firstFault_L9; rw [iF (by omega)]; simp only [bnd_e, Sum.elim_inr]; rw [hcl]
    · unfold fX12_orders_L7; rw [rd_e hd.1 (by omega), iF (by omega)]; simp only [bnd_e, Sum.elim_inr]; rw [rd_e hd.1 (by omega), hs.1, ck_e (by omega) (by omega)]
end

section
set_option linter.unusedVariables false
variable {σ τ : Sg} {V : Vw} {N : Int}
theorem ff_run {d len : Int} {w : Int → Int} {σ0 : Sg} (B0 : Byt σ0 τ d w len) : ∀ (n : Nat) (k e c : Int) (σ : Sg), (∀ j, j ≠ 44 → σ j = σ0 j) → (∀ p, p ≠ 4 → σ 44 p = σ0 44 p) → 0 ≤ k → (0 ≤ e ∧ e ≤ 8) → σ 44 4 = c → (0 ≤ c ∧ c ≤ k) → (k ≤ 101) → 102 - k < (n : Int) → 0 < n →
    ∃ σ', (∀ j, j ≠ 44 → σ' j = σ0 j) ∧ (∀ p, p ≠ 4 → σ' 44 p = σ0 44 p) ∧ ((∃ f, (0 ≤ f ∧ f ≤ 100) ∧ ffC n (tpO d) k e σ = some (f, σ') ∧ ffR n d c e k τ = some (-1 - f)) ∨ (∃ m : Nat, ffC n (tpO d) k e σ = some (-1, σ') ∧ ffR n d c e k τ = some (c + m) ∧ σ' 44 4 = c + m ∧ c + m ≤ 100 ∧ welO w len m k e)) := by
  have hs := B0.s
  intro n
  induction n with
  | zero => intro k e c σ _ _ _ _ _ _ _ _ h; omega
  | succ n ih =>
    intro k e c σ E1 E2 hk he hc hc1 hk1 hn _
    have B : Byt σ τ d w len := B0.congr (fun j hj => E1 j (by omega)) rfl rfl
    rcases ff_step B (n := n) hk he hc hc1 with ⟨s1, s2⟩ | ⟨kl, s0, s1, s2, s3⟩ | ⟨kl, s0, k', e', a1, a2, a3, a4, a5, s1, s2⟩
    · refine ⟨σ, E1, E2, .inl ⟨if k < len then k else len, ?_, s1, s2⟩⟩
      split <;> omega
    · exact ⟨σ, E1, E2, .inr ⟨0, s2, by rw [s3]; simp, by simpa using hc, by simp; omega, kl, s0, s1⟩⟩
    · obtain ⟨σ', b1, b2, b3⟩ := ih k' e' (c + 1) (put σ 44 4 (c + 1)) (fun j hj => by rw [put_ne hj, E1 j hj]) (fun p hp => by rw [put_F hp, E2 p hp]) (by omega) a1 (put_T rfl) (by omega) (by omega) (by omega) (by omega)
      refine ⟨σ', b1, b2, ?_⟩
      rw [s1, s2]
      rcases b3 with ⟨f, f0, f1, f2⟩ | ⟨m, f1, f2, f3, f4, f5⟩
      · exact .inl ⟨f, f0, f1, f2⟩
      · right
        refine ⟨m + 1, f1, by rw [f2]; congr 1; omega, by rw [f3]; omega, by omega, ?_⟩
        refine ⟨kl, s0, he, fun x => ?_, fun x => ?_, fun x => ?_⟩
        · obtain ⟨q1, q2, q3, q4, q5⟩ := a3 x
          rw [q1, q5] at f5; exact ⟨q3, q2, q4, f5⟩
        · obtain ⟨q1, q2, q3⟩ := a4 x
          rw [q1, q3] at f5; exact ⟨q2, f5⟩
        · obtain ⟨q1, q2, q3⟩ := a5 x
          rw [q1, q3] at f5; exact ⟨q2, f5⟩
theorem welO_lt {w : Int → Int} {len : Int} {n : Nat} {k d : Int} (h : welO w len n k d) : k < len := by
  cases n with
  | zero => exact h.1
  | succ n => exact h.1
theorem cc_addL {d len r : Int} {w : Int → Int} {σ0 : Sg} (B0 : Byt σ0 τ d w len) (hr : 0 ≤ r ∧ r < 8) (h3 : σ0 44 3 = r) {M : Int} (hM : 0 ≤ M ∧ M ≤ 20) (h4 : σ0 44 4 = M) {wd : Int → Int} {b : Int} (hb : 0 ≤ b ∧ b + 100 ≤ 800) (hw : ∀ k, 0 ≤ k → k < len → wd (b + k) = w k) :
    ∀ (t n : Nat) (k i e : Int) (σ : Sg), (∀ j, j ≠ 45 → j ≠ 46 → σ j = σ0 j) → i + t = M → 0 ≤ i → 0 ≤ k → welO w len t k e → t + 1 ≤ n →
    ∃ σ', fX5_add_L21 n (tpO d) k i σ = some (M, σ') ∧ (∀ j, j ≠ 45 → j ≠ 46 → σ' j = σ0 j) ∧ (∀ p, ¬ (20 * r + i ≤ p ∧ p < 20 * r + M) → σ' 45 p = σ 45 p ∧ σ' 46 p = σ 46 p) ∧ rulV wd (σ' 45) (σ' 46) t (b + k) (20 * r + i) e := by
  have hs := B0.s
  intro t
  induction t with
  | zero =>
    intro n k i e σ E1 hi h0 hk hw0 hn
    obtain ⟨n, rfl⟩ : ∃ m, n = m + 1 := ⟨n - 1, by omega⟩
    have q4 : σ 44 4 = M := by rw [E1 44 (by decide) (by decide)]; exact h4
    refine ⟨σ, ?_, E1, fun _ _ => ⟨rfl, rfl⟩, ?_⟩
    · unfold fX5_add_L21; rw [iF (by omega), show i = M by omega]
    · obtain ⟨x1, x2, x3⟩ := hw0
      exact ⟨by omega, by rw [hw k hk x1]; exact x2, x3⟩
  | succ t ih =>
    intro n k i e σ E1 hi h0 hk hw0 hn
    obtain ⟨n, rfl⟩ : ∃ m, n = m + 1 := ⟨n - 1, by omega⟩
    have B : Byt σ τ d w len := B0.congr (fun j hj => E1 j (by omega) (by omega)) rfl rfl
    have q4 : σ 44 4 = M := by rw [E1 44 (by decide) (by decide)]; exact h4
    have q3 : σ 44 3 = r := by rw [E1 44 (by decide) (by decide)]; exact h3
    obtain ⟨kl, oin, he, w5, w8, w67⟩ := hw0
    obtain ⟨x, hx⟩ : ∃ x, fX9_numberAt (tpO d) (k + 1) (put σ 45 (r * 20 + i) (w k)) = some x ∧ (w k ≤ 5 → x = w (k + 1)) := by
      have B' : Byt (put σ 45 (r * 20 + i) (w k)) τ d w len := B.congr (fun j hj => put_ne (by omega)) rfl rfl
      by_cases c : k + 1 < len
      · exact ⟨w (k + 1), cc_num B' (by omega) c, fun _ => rfl⟩
      · exact ⟨0, cc_num0 B' (by omega), fun y => absurd (w5 y).2.1 c⟩
    have step : fX5_add_L21 (n + 1) (tpO d) k i σ = fX5_add_L21 n (tpO d) (k + (if w k ≤ 5 then 2 else 1)) (i + 1) (put (put σ 45 (r * 20 + i) (w k)) 46 (r * 20 + i) x) := by
      conv => lhs; unfold fX5_add_L21
      rw [iT (by omega), iT (by omega), cc_num B hk kl]; simp only [bnd_e]
      rw [q3, ck_e (by omega) (by omega), ck_e (by omega) (by omega), wr_e (by omega) (by omega), put_ne (by decide), q3, ck_e (by omega) (by omega), ck_e (by omega) (by omega), ck_e (by omega) (by omega), hx.1]; simp only [bnd_e]
      rw [wr_e (by omega) (by omega)]
      unfold fX5_add_L21P91
      by_cases c : w k ≤ 5
      · rw [iT c, iT c, ck_e (by omega) (by omega), ck_e (by omega) (by omega)]
      · rw [iF c, iF c, ck_e (by omega) (by omega), ck_e (by omega) (by omega)]
    rw [step]
    obtain ⟨k', e', hk', hwel, hrul⟩ : ∃ k' e', k' = k + (if w k ≤ 5 then 2 else 1) ∧ welO w len t k' e' ∧ (∀ o p : Int → Int, o (20 * r + i) = w k → (w k ≤ 5 → p (20 * r + i) = w (k + 1)) → rulV wd o p t (b + k') (20 * r + (i + 1)) e' → rulV wd o p (t + 1) (b + k) (20 * r + i) e) := by
      have hwk := hw k hk kl
      by_cases c : w k ≤ 5
      · obtain ⟨y1, y2, y3, y4⟩ := w5 c
        refine ⟨k + 2, e + 1, by rw [iT c], y4, fun o p ho hp hR => ?_⟩
        have hwk1 := hw (k + 1) (by omega) y2
        unfold rulV
        rw [hwk, show b + k + 1 = b + (k + 1) by omega, hwk1]
        refine ⟨by omega, oin, ho, he, fun _ => ⟨hp c, y1, y3, ?_⟩, fun z => by omega, fun z => by omega⟩
        rw [show b + k + 2 = b + (k + 2) by omega, show 20 * r + i + 1 = 20 * r + (i + 1) by omega]; exact hR
      · by_cases c8 : w k = 8
        · obtain ⟨y1, y2⟩ := w8 c8
          have kl2 := welO_lt y2
          refine ⟨k + 1, e, by rw [iF c], y2, fun o p ho hp hR => ?_⟩
          unfold rulV
          rw [hwk]
          refine ⟨by omega, oin, ho, he, fun z => by omega, fun _ => ⟨y1, ?_⟩, fun z => by omega⟩
          rw [show b + k + 1 = b + (k + 1) by omega, show 20 * r + i + 1 = 20 * r + (i + 1) by omega]; exact hR
        · obtain ⟨y1, y2⟩ := w67 (by omega)
          have kl2 := welO_lt y2
          refine ⟨k + 1, e - 1, by rw [iF c], y2, fun o p ho hp hR => ?_⟩
          unfold rulV
          rw [hwk]
          refine ⟨by omega, oin, ho, he, fun z => by omega, fun z => by omega, fun _ => ⟨y1, ?_⟩⟩
          rw [show b + k + 1 = b + (k + 1) by omega, show 20 * r + i + 1 = 20 * r + (i + 1) by omega]; exact hR
    rw [← hk']
    obtain ⟨σ', a1, a2, a3, a4⟩ := ih n k' (i + 1) e' (put (put σ 45 (r * 20 + i) (w k)) 46 (r * 20 + i) x) (fun j j1 j2 => by rw [put_ne j2, put_ne j1, E1 j j1 j2]) (by omega) (by omega) (by rw [hk']; split <;> omega) hwel (by omega)
    refine ⟨σ', a1, a2, ?_, ?_⟩
    · intro p hp
      obtain ⟨z1, z2⟩ := a3 p (by omega)
      rw [z1, z2, put_ne (by decide), put_F (by omega), put_F (by omega), put_ne (by decide)]; exact ⟨rfl, rfl⟩
    · have z := a3 (20 * r + i) (by omega)
      refine hrul _ _ ?_ ?_ a4
      · rw [z.1, put_ne (by decide), put_T (by omega)]
      · intro c; rw [z.2, put_T (by omega)]; exact hx.2 c
theorem rr_holdL {d len r : Int} {w : Int → Int} {τ0 : Sg} (B0 : Byt σ τ0 d w len) (hr : 0 ≤ r ∧ r < 8) (h34 : τ0 0 34 = r) : ∀ (n : Nat) (x : Int) (τ : Sg), (∀ j, j ≠ 25 → τ j = τ0 j) → 0 ≤ x → len - x < (n : Int) → 0 < n → ∃ τ', fX12_hold_L62 n d x τ = some τ' ∧ (∀ j, j ≠ 25 → τ' j = τ0 j) ∧ (∀ k, x ≤ k → k < len → τ' 25 (100 * r + k) = w k) ∧ (∀ k, ¬ (100 * r + x ≤ k ∧ k < 100 * r + len) → τ' 25 k = τ 25 k) := by
  have hs := B0.s; have hd := B0.hd
  intro n
  induction n with
  | zero => intro x τ _ _ h; omega
  | succ n ih =>
    intro x τ E h0 h1 _
    have B : Byt σ τ d w len := B0.congr (fun _ _ => rfl) (E 29 (by decide)) (E 31 (by decide))
    have hs' := B.s
    have q : τ 0 34 = r := by rw [E 0 (by decide)]; exact h34
    unfold fX12_hold_L62
    rw [rd_e hd.1 (by omega), hs'.1]
    by_cases c : x < len
    · obtain ⟨τ', a1, a2, a3, a4⟩ := ih (x + 1) (put τ 25 (100 * r + x) (w x)) (fun j hj => by rw [put_ne hj, E j hj]) (by omega) (by omega) (by omega)
      refine ⟨τ', ?_, a2, ?_, ?_⟩
      · rw [iT c, q, ck_e (by omega) (by omega), ck_e (by omega) (by omega), rr_word B h0 (by omega)]; simp only [bnd_e]
        rw [wr_e (by omega) (by omega), ck_e (by omega) (by omega), a1]
      · intro k k0 k1
        by_cases e : k = x
        · rw [e, a4 _ (by omega), put_T rfl]
        · exact a3 k (by omega) k1
      · intro k hk; rw [a4 k (by omega), put_F (by omega)]
    · exact ⟨τ, by rw [iF c], E, fun k k0 k1 => by omega, fun _ _ => rfl⟩
theorem rulV_congr {w o m w' o' m' : Int → Int} : ∀ (n : Nat) (k i d : Int), (∀ x, k ≤ x → x ≤ k + 2 * n + 1 → w' x = w x) → (∀ x, i ≤ x → x < i + n → o' x = o x ∧ m' x = m x) → rulV w o m n k i d → rulV w' o' m' n k i d
  | 0, k, i, d, hw, ho, h => by
    unfold rulV at h ⊢
    rw [hw k (by omega) (by omega)]; exact h
  | n + 1, k, i, d, hw, ho, h => by
    unfold rulV at h ⊢
    obtain ⟨a1, a2, a3, a4, a5, a6, a7⟩ := h
    have ho0 := ho i (by omega) (by omega)
    rw [hw k (by omega) (by omega), hw (k + 1) (by omega) (by omega), ho0.1, ho0.2]
    refine ⟨a1, a2, a3, a4, fun x => ?_, fun x => ?_, fun x => ?_⟩
    · obtain ⟨b1, b2, b3, b4⟩ := a5 x
      exact ⟨b1, b2, b3, rulV_congr n _ _ _ (fun y y0 y1 => hw y (by omega) (by omega)) (fun y y0 y1 => ho y (by omega) (by omega)) b4⟩
    · obtain ⟨b1, b2⟩ := a6 x
      exact ⟨b1, rulV_congr n _ _ _ (fun y y0 y1 => hw y (by omega) (by omega)) (fun y y0 y1 => ho y (by omega) (by omega)) b2⟩
    · obtain ⟨b1, b2⟩ := a7 x
      exact ⟨b1, rulV_congr n _ _ _ (fun y y0 y1 => hw y (by omega) (by omega)) (fun y y0 y1 => ho y (by omega) (by omega)) b2⟩
theorem m_hold (d : Int) : Mt (fX11_hold d) (fX12_hold d) := by
  intro N σ τ R0 hN
  have R := Rel_54 R0
  unfold fX12_hold
  rw [st1_e]
  generalize hτ : put τ 0 54 0 = τ1 at R ⊢
  have t54 : τ1 0 54 = 0 := by rw [← hτ, put_T rfl]
  have v := R.v
  unfold fX11_hold fX9_refusalAs fX12_wrongBytes
  rw [isTape_b]; simp only [bnd_e]
  by_cases hd : 0 ≤ d ∧ d < 6
  · rw [iT hd, bi_T (show 0 ≤ d ∧ d ≤ 5 by omega)]; (try simp only [bnd_e, one0, two0, if_false, ↓reduceIte])
    have T := R.tape d hd.1 hd.2
    have so := T.so
    rw [so.1, rd_e hd.1 (by omega)]
    by_cases c0 : τ1 28 d = 0
    · obtain ⟨r1, r2, r3⟩ := refuse_e R hN (-11)
      rw [iT c0, iT c0, r2]; simp only [bnd_e]
      rw [iF (by decide), iF (by decide), r1]
      exact ⟨_, _, _, rfl, rfl, r3⟩
    · rw [iF c0, iF c0, rd_e hd.1 (by omega)]
      by_cases c1 : τ1 28 d = 1
      · rw [iT c1, iT c1]; simp only [bnd_e, if_true]
        have B := Byt_of R hd c1
        have le := T.le (by omega) (by omega)
        obtain ⟨len, hlen⟩ : ∃ l, l = τ1 29 d := ⟨_, rfl⟩
        obtain ⟨w, hw⟩ : ∃ w, w = fun i => τ1 31 (100 * d + i) := ⟨_, rfl⟩
        rw [← hlen, ← hw] at B
        rw [← hlen] at le
        obtain ⟨σ1, b1, b2, b3⟩ := ff_run (σ0 := put σ 44 4 0) (B.congr (fun j hj => put_ne (by omega)) rfl rfl) fu 0 0 0 (put σ 44 4 0) (fun _ _ => rfl) (fun _ _ => rfl) (by omega) (by omega) (put_T rfl) (by omega) (by omega) (by rw [fu_i]; omega) fu_pos
        have b1' : ∀ j, j ≠ 44 → σ1 j = σ j := fun j hj => by rw [b1 j hj, put_ne hj]
        have b2' : ∀ p, p ≠ 4 → σ1 44 p = σ 44 p := fun p hp => by rw [b2 p hp, put_F hp]
        have ffc : fX5_firstFault (tpO d) σ = ffC fu (tpO d) 0 0 (put σ 44 4 0) := rfl
        have ffr : fX12_orders d τ1 = ffR fu d 0 0 0 τ1 := rfl
        rw [ffc, ffr]
        have rr := v.r.1
        dsimp only [vw] at rr
        have R1 : Rel N σ1 τ1 := (Rel.mk (v := by
            have N1 : RelN σ1 (vw τ1) := (RelN.mk (g := by rw [b1' 2 (by decide)]; exact v.g) (k := by rw [b1' 7 (by decide), b1' 8 (by decide), b1' 9 (by decide), b1' 10 (by decide), b1' 11 (by decide), b1' 12 (by decide)]; exact v.k) (b := by rw [b1' 3 (by decide), b1' 4 (by decide), b1' 5 (by decide)]; exact v.b) (d := by rw [b1' 14 (by decide), b1' 15 (by decide)]; exact v.d) (n := by rw [b1' 19 (by decide)]; exact v.n) (c := by rw [b1' 20 (by decide), b1' 21 (by decide), b1' 22 (by decide), b1' 23 (by decide), b1' 49 (by decide)]; exact v.c) (m := by rw [b1' 40 (by decide), b1' 41 (by decide), b1' 42 (by decide), b1' 43 (by decide)]; exact v.m) (r := by rw [b2' 3 (by decide), b1' 45 (by decide), b1' 46 (by decide), b1' 47 (by decide)]; exact v.r) (h := by rw [b1' 48 (by decide)]; exact v.h))
            refine ⟨N1, fun k w a b c => ?_⟩
            have := v.f k w a b c
            unfold fallOk fallAt at this ⊢
            rw [b1' 16 (by decide), b1' 17 (by decide), b1' 18 (by decide)]; exact this) (gap := by rw [b1' 0 (by decide)]; exact R.gap) (ref := by rw [b1' 0 (by decide)]; exact R.ref) (seen := by rw [b1' 54 (by decide), b1' 55 (by decide), b1' 56 (by decide)]; exact R.seen) (tape := tape_congr R.tape (fun j hj => b1' j (by omega)) (fun _ _ _ => rfl)) (play := R.play))
        have q3 : σ1 44 3 = τ1 0 34 := by rw [b2' 3 (by decide)]; exact rr.1
        rcases b3 with ⟨f, f0, f1, f2⟩ | ⟨m, f1, f2, f3, f4, f5⟩
        · rw [f1, f2]; simp only [bnd_e]
          rw [iF (show ¬ f < 0 by omega), iT (show -1 - f < 0 by omega), ck_e (by omega) (by omega), ck_e (by omega) (by omega)]
          exact ⟨_, _, _, rfl, by rw [show -99 + (-1 - f) = -100 - f by omega], R1.up⟩
        · rw [f1, f2]; simp only [bnd_e]
          rw [iT (show (-1 : Int) < 0 by decide), iF (show ¬ (0 : Int) + m < 0 by omega)]
          by_cases c8 : τ1 0 34 = 8
          · rw [iF (show ¬ σ1 44 3 < 8 by omega), iT c8]; exact ⟨_, _, _, rfl, rfl, R1.up⟩
          · rw [iT (show σ1 44 3 < 8 by omega), iF c8]
            by_cases c20 : (m : Int) ≤ 20
            · rw [iT (show σ1 44 4 ≤ 20 by omega), iT (show (0 : Int) + m ≤ 20 by omega)]
              obtain ⟨r, hr⟩ : ∃ r, r = τ1 0 34 := ⟨_, rfl⟩
              rw [← hr] at q3 rr
              have B1 : Byt σ1 τ1 d w len := B.congr (fun j hj => b1' j (by omega)) rfl rfl
              obtain ⟨τ2, d1, d2, d3, d4⟩ := rr_holdL B1 (r := r) (by omega) hr.symm fu 0 τ1 (fun _ _ => rfl) (by omega) (by rw [fu_i]; omega) fu_pos
              obtain ⟨σ2, e1, e2, e3, e4⟩ := cc_addL B1 (r := r) (by omega) q3 (M := m) (by omega) (by omega) (wd := τ2 25) (b := 100 * r) (by omega) (fun k k0 k1 => d3 k k0 k1) m fu 0 0 0 σ1 (fun _ _ _ => rfl) (by omega) (by omega) (by omega) f5 (by unfold fu; omega)
              have add : fX5_add (tpO d) σ1 = some (put (put σ2 47 r m) 44 3 (r + 1)) := by
                unfold fX5_add
                rw [iF (by omega), iT (by omega), e1]; simp only [bnd_e]
                rw [e2 44 (by decide) (by decide), q3, wr_e (by omega) (by omega), put_ne (by decide), e2 44 (by decide) (by decide), q3, ck_e (by omega) (by omega), st1_e]
              rw [add, d1]; simp only [bnd_e]
              have z34 : τ2 0 34 = r := by rw [d2 0 (by decide)]; exact hr.symm
              rw [put_T rfl, ck_e (by omega) (by omega), z34, ck_e (by omega) (by omega), st1_e, put_T rfl, ck_e (by omega) (by omega)]
              refine ⟨_, _, _, rfl, rfl, ?_⟩
              rw [show (0 : Int) + m = m by omega] at f3
              refine Rel.up (Rel_view R1 ?_ (fun j hj => by rw [put_ne (by omega), put_ne (by omega), e2 j (by omega) (by omega)]) (by rw [put_ne (by decide), put_ne (by decide), e2 0 (by decide) (by decide)]) (by rw [put_ne (by decide), put_ne (by decide), e2 0 (by decide) (by decide)]) (fun j h1 h2 => by rw [put_ne (by omega), d2 j (by omega)]) (by rw [put_F (by decide), d2 0 (by decide)]) (by rw [put_F (by decide), d2 0 (by decide)]) (by rw [put_F (by decide), d2 0 (by decide)]) (.inl (by rw [put_F (by decide), d2 0 (by decide)]; exact t54)))
              have hvw : vw (put τ2 0 34 (r + 1)) = ((τ1 1, τ1 2, τ1 3, τ1 4, τ1 5), (τ1 6, τ1 7, τ1 8, τ1 9, τ1 10), (τ1 11, τ1 12, τ1 13, τ1 14, τ1 15), (τ1 16, τ1 17, τ1 22, τ1 23, τ1 24), (τ2 25, τ1 0 32, τ1 0 33, r + 1, τ1 0 35)) := by
                unfold vw
                simp (disch := decide) only [put_ne, put_F, put_T]
                simp only [d2 1 (by decide), d2 2 (by decide), d2 3 (by decide), d2 4 (by decide), d2 5 (by decide), d2 6 (by decide), d2 7 (by decide), d2 8 (by decide), d2 9 (by decide), d2 10 (by decide), d2 11 (by decide), d2 12 (by decide), d2 13 (by decide), d2 14 (by decide), d2 15 (by decide), d2 16 (by decide), d2 17 (by decide), d2 22 (by decide), d2 23 (by decide), d2 24 (by decide), d2 0 (by decide)]
              rw [hvw]
              have v1 := R1.v
              have vs : RelV (setA (setA (setA (setA σ1 45 (σ2 45)) 46 (σ2 46)) 47 ((put σ2 47 r m) 47)) 44 ((put (put σ2 47 r m) 44 3 (r + 1)) 44)) ((τ1 1, τ1 2, τ1 3, τ1 4, τ1 5), (τ1 6, τ1 7, τ1 8, τ1 9, τ1 10), (τ1 11, τ1 12, τ1 13, τ1 14, τ1 15), (τ1 16, τ1 17, τ1 22, τ1 23, τ1 24), (τ2 25, τ1 0 32, τ1 0 33, r + 1, τ1 0 35)) := (RelV.all (g := v1.g) (k := v1.k) (b := v1.b) (d := v1.d) (n := v1.n) (c := v1.c) (m := v1.m) (r := by
                  refine ⟨?_, fun i i0 i1 => ?_⟩
                  · rw [setA_at, put_T rfl]; show r + 1 = r + 1 ∧ 0 ≤ r + 1 ∧ r + 1 ≤ 8; omega
                  · have i1' : i < r + 1 := i1
                    rw [setA_ne (show (47 : Nat) ≠ 44 by decide), setA_at, setA_ne (show (45 : Nat) ≠ 44 by decide), setA_ne (show (45 : Nat) ≠ 47 by decide), setA_ne (show (45 : Nat) ≠ 46 by decide), setA_at, setA_ne (show (46 : Nat) ≠ 44 by decide), setA_ne (show (46 : Nat) ≠ 47 by decide), setA_at, put_at]
                    by_cases e : i = r
                    · rw [iT e, e]
                      refine ⟨by omega, ?_⟩
                      rw [show ((m : Int)).toNat = m by omega]
                      rw [show 100 * r + 0 = 100 * r by omega, show 20 * r + 0 = 20 * r by omega] at e4
                      exact e4
                    · rw [iF e, e2 47 (by decide) (by decide)]
                      obtain ⟨x1, x2⟩ := v1.r.2 i i0 (by show i < τ1 0 34; omega)
                      refine ⟨x1, ?_⟩
                      have r0 := rr.2.1
                      refine rulV_congr _ _ _ _ (fun y y0 y1 => d4 y (by omega)) (fun y y0 y1 => e3 y (by omega)) x2) (h := v1.h) (f := fun k w t a b => v1.f k w t a b))
              refine RelV_congr vs (fun j hj => ?_)
              by_cases e44 : j = 44
              · rw [e44, setA_at]
              rw [setA_ne e44, put_ne e44]
              by_cases e47 : j = 47
              · rw [e47, setA_at]
              rw [setA_ne e47, put_ne e47]
              by_cases e46 : j = 46
              · rw [e46, setA_at]
              rw [setA_ne e46]
              by_cases e45 : j = 45
              · rw [e45, setA_at]
              rw [setA_ne e45, e2 j e45 e46]
            · rw [iF (show ¬ σ1 44 4 ≤ 20 by omega), iF (show ¬ (0 : Int) + m ≤ 20 by omega)]; exact ⟨_, _, _, rfl, rfl, R1.up⟩
      · obtain ⟨r1, r2, r3⟩ := refuse_e R hN (-12)
        rw [iF c1, iF c1, r2]; simp only [bnd_e]
        rw [iF (by decide), iF (by decide), r1]
        exact ⟨_, _, _, rfl, rfl, r3⟩
  · rw [iF hd, bi_F (show ¬ (0 ≤ d ∧ d ≤ 5) by omega)]; exact ⟨_, _, _, rfl, rfl, R.up⟩
end

section
set_option linter.unusedVariables false
variable {σ τ : Sg} {V : Vw} {N : Int}
theorem ofI_nat {a : Nat} (ha : a < 2 ^ 31) : (Int32.ofInt (a : Int)).toBitVec = BitVec.ofNat 32 a := by
  show BitVec.ofInt 32 (a : Int) = _
  rw [BitVec.ofInt_natCast]
theorem bAnd_nat {a b : Nat} (ha : a < 2 ^ 31) (hb : b < 2 ^ 31) : bAnd a b = ((a &&& b : Nat) : Int) := by
  unfold bAnd
  have h : (Int32.ofInt (a : Int) &&& Int32.ofInt (b : Int)).toBitVec = BitVec.ofNat 32 (a &&& b) := by
    rw [Int32.toBitVec_and, ofI_nat ha, ofI_nat hb, ← BitVec.ofNat_and]
  show (Int32.ofInt (a : Int) &&& Int32.ofInt (b : Int)).toBitVec.toInt = _
  rw [h]
  have hl : a &&& b < 2 ^ 31 := Nat.lt_of_le_of_lt Nat.and_le_left ha
  have hm : (BitVec.ofNat 32 (a &&& b)).toNat = a &&& b := by rw [BitVec.toNat_ofNat]; exact Nat.mod_eq_of_lt (by omega)
  rw [BitVec.toInt_eq_toNat_of_lt (by rw [hm]; omega), hm]
theorem bit_all : ∀ x : Fin 256, ∀ i : Fin 8, bOr (x.val : Int) (bShl 1 (i.val : Int)) = ((x.val ||| 2 ^ i.val : Nat) : Int) ∧ (x.val.testBit i.val = false → bAnd (bOr (x.val : Int) (bShl 1 (i.val : Int))) (bXor (bShl 1 (i.val : Int)) (-1)) = (x.val : Int)) := by decide +kernel
theorem bit_or {x : Nat} (hx : x < 256) {i : Nat} (hi : i < 8) : bOr (x : Int) (bShl 1 (i : Int)) = ((x ||| 2 ^ i : Nat) : Int) := (bit_all ⟨x, hx⟩ ⟨i, hi⟩).1
theorem bit_clr {x : Nat} (hx : x < 256) {i : Nat} (hi : i < 8) (h : x.testBit i = false) : bAnd ((x ||| 2 ^ i : Nat) : Int) (bXor (bShl 1 (i : Int)) (-1)) = (x : Int) := by
  rw [← bit_or hx hi]; exact (bit_all ⟨x, hx⟩ ⟨i, hi⟩).2 h
theorem or_lt {x i : Nat} (hx : x < 256) (hi : i < 8) : x ||| 2 ^ i < 256 := by
  have h2 : 2 ^ i < 2 ^ 8 := Nat.pow_lt_pow_right (by omega) hi
  exact Nat.or_lt_two_pow (n := 8) hx h2

def msk (x : Int) (P : Nat → Prop) : Prop := (0 ≤ x ∧ x < 256) ∧ ∀ j, j < 8 → (x.toNat.testBit j = true ↔ P j)
theorem msk_0 : msk 0 (fun _ => False) := ⟨by omega, fun j _ => by simp⟩
theorem msk_or {x : Int} {P : Nat → Prop} (h : msk x P) {i : Nat} (hi : i < 8) : msk (bOr x (bShl 1 (i : Int))) (fun j => P j ∨ j = i) := by
  obtain ⟨⟨h0, h1⟩, h2⟩ := h
  have e : bOr x (bShl 1 (i : Int)) = ((x.toNat ||| 2 ^ i : Nat) : Int) := by
    have := bit_or (x := x.toNat) (by omega) hi
    rw [Int.toNat_of_nonneg h0] at this; exact this
  have := or_lt (x := x.toNat) (by omega) hi
  refine ⟨by rw [e]; omega, fun j hj => ?_⟩
  rw [e, Int.toNat_natCast, Nat.testBit_or, Nat.testBit_two_pow, Bool.or_eq_true, h2 j hj]
  simp only [decide_eq_true_eq]
  constructor
  · rintro (x | x)
    · exact .inl x
    · exact .inr x.symm
  · rintro (x | x)
    · exact .inl x
    · exact .inr x.symm
theorem msk_clr {x : Int} {P : Nat → Prop} (h : msk x P) {i : Nat} (hi : i < 8) (hp : ¬ P i) : bAnd (bOr x (bShl 1 (i : Int))) (bXor (bShl 1 (i : Int)) (-1)) = x := by
  obtain ⟨⟨h0, h1⟩, h2⟩ := h
  have hb : x.toNat.testBit i = false := by
    cases e : x.toNat.testBit i
    · rfl
    · exact absurd ((h2 i hi).1 e) hp
  have := (bit_all ⟨x.toNat, by omega⟩ ⟨i, hi⟩).2 hb
  simp only [Int.toNat_of_nonneg h0] at this
  exact this
theorem msk_and {x y : Int} {P Q : Nat → Prop} (h : msk x P) (h' : msk y Q) : bAnd x y = 0 ↔ ∀ j, j < 8 → ¬ (P j ∧ Q j) := by
  obtain ⟨⟨h0, h1⟩, h2⟩ := h
  obtain ⟨⟨h0', h1'⟩, h2'⟩ := h'
  have e : bAnd x y = ((x.toNat &&& y.toNat : Nat) : Int) := by
    have := bAnd_nat (a := x.toNat) (b := y.toNat) (by omega) (by omega)
    rw [Int.toNat_of_nonneg h0, Int.toNat_of_nonneg h0'] at this; exact this
  rw [e]
  constructor
  · intro hz j hj ⟨p, q⟩
    have hz' : x.toNat &&& y.toNat = 0 := by omega
    have : (x.toNat &&& y.toNat).testBit j = true := by rw [Nat.testBit_and, (h2 j hj).2 p, (h2' j hj).2 q]; rfl
    rw [hz'] at this; simp at this
  · intro H
    have : x.toNat &&& y.toNat = 0 := by
      apply Nat.eq_of_testBit_eq
      intro j
      rw [Nat.testBit_and, Nat.zero_testBit]
      by_cases hj : j < 8
      · cases a : x.toNat.testBit j
        · rfl
        · cases b : y.toNat.testBit j
          · rfl
          · exact absurd ⟨(h2 j hj).1 a, (h2' j hj).1 b⟩ (H j hj)
      · have hx : x.toNat < 2 ^ j := Nat.lt_of_lt_of_le (show x.toNat < 2 ^ 8 by omega) (Nat.pow_le_pow_right (by omega) (by omega))
        rw [Nat.testBit_lt_two_pow hx]; rfl
    rw [this]; rfl
theorem sumI_s (g : Int → Int) (n : Nat) (i : Int) : sumI g (n + 1) i = g i + sumI g n (i + 1) := rfl
theorem sumI_snoc (g : Int → Int) : ∀ (n : Nat) (i : Int), sumI g (n + 1) i = sumI g n i + g (i + n)
  | 0, i => by
    rw [sumI_s, show i + ((0 : Nat) : Int) = i by omega]
    show g i + 0 = 0 + g i
    omega
  | n + 1, i => by
    rw [sumI_s, sumI_snoc g n (i + 1), sumI_s, show i + 1 + (n : Int) = i + ((n + 1 : Nat) : Int) by omega]
    omega

noncomputable def opN (V : Vw) (c : Nat) : Int := sumI (fun j => bi (V.2.2.1.2.2.2.2 j = -1)) c 0
noncomputable def ldN (V : Vw) (c : Nat) (s : Int) : Int := sumI (fun j => bi (V.2.2.1.2.2.2.2 j = s)) c 0
noncomputable def opF (V : Vw) : Nat → (Int → Int)
  | 0 => fun _ => 0
  | c + 1 => if V.2.2.1.2.2.2.2 c = -1 then zupd (opF V c) (opN V c) c else opF V c
theorem opN_s (V : Vw) (c : Nat) : opN V (c + 1) = opN V c + bi (V.2.2.1.2.2.2.2 c = -1) := by unfold opN; rw [sumI_snoc, show (0 : Int) + c = c by omega]
theorem ldN_s (V : Vw) (c : Nat) (s : Int) : ldN V (c + 1) s = ldN V c s + bi (V.2.2.1.2.2.2.2 c = s) := by unfold ldN; rw [sumI_snoc, show (0 : Int) + c = c by omega]
theorem opN_rng (V : Vw) (c : Nat) : 0 ≤ opN V c ∧ opN V c ≤ c := sumI_rng (fun j => bi_rng) c 0
theorem ldN_rng (V : Vw) (c : Nat) (s : Int) : 0 ≤ ldN V c s ∧ ldN V c s ≤ c := sumI_rng (fun j => bi_rng) c 0
theorem opN_mono (V : Vw) : ∀ {c d : Nat}, c ≤ d → opN V c ≤ opN V d
  | c, 0, h => by rw [show c = 0 by omega]; omega
  | c, d + 1, h => by
    by_cases e : c = d + 1
    · rw [e]; omega
    · have := opN_mono V (c := c) (d := d) (by omega)
      have := opN_s V d; have := bi_rng (p := V.2.2.1.2.2.2.2 d = -1); omega
theorem opF_rng (V : Vw) : ∀ (c : Nat) (j : Int), 0 ≤ j → j < opN V c → 0 ≤ opF V c j ∧ opF V c j < c ∧ V.2.2.1.2.2.2.2 (opF V c j) = -1
  | 0, j, h0, h1 => by have := opN_rng V 0; omega
  | c + 1, j, h0, h1 => by
    unfold opF
    rw [opN_s] at h1
    by_cases e : V.2.2.1.2.2.2.2 c = -1
    · rw [if_pos e]
      rw [bi_T e] at h1
      by_cases e2 : j = opN V c
      · rw [zupd_T e2]; exact ⟨by omega, by omega, e⟩
      · rw [zupd_F e2]; have := opF_rng V c j h0 (by omega); omega
    · rw [if_neg e]
      rw [bi_F e] at h1
      have := opF_rng V c j h0 (by omega); omega
theorem cc_prep1 (R0 : RelN σ V) (h8 : opN V V.2.2.2.2.2.1.toNat ≤ 8) {x : Int} : ∀ (n : Nat) (c : Nat) (σ' : Sg), (∀ j, j ≠ 32 → j ≠ 33 → j ≠ 36 → σ' j = σ j) → (∀ p, p ≠ 10 → σ' 32 p = σ 32 p) → (c : Int) ≤ V.2.2.2.2.2.1 → V.2.2.2.2.2.1 - c < (n : Int) → σ' 32 10 = opN V c → (∀ j, 0 ≤ j → j < opN V c → σ' 33 j = opF V c j) → (∀ s, 0 ≤ s → s < 6 → σ' 36 s = ldN V c s) →
    ∃ σ2, fX3_prepare_L28 n x c σ' = some σ2 ∧ (∀ j, j ≠ 32 → j ≠ 33 → j ≠ 36 → σ2 j = σ j) ∧ (∀ p, p ≠ 10 → σ2 32 p = σ 32 p) ∧ σ2 32 10 = opN V V.2.2.2.2.2.1.toNat ∧ (∀ j, 0 ≤ j → j < opN V V.2.2.2.2.2.1.toNat → σ2 33 j = opF V V.2.2.2.2.2.1.toNat j) ∧ (∀ s, 0 ≤ s → s < 6 → σ2 36 s = ldN V V.2.2.2.2.2.1.toNat s) := by
  have hn := R0.n
  intro n
  induction n with
  | zero => intro c σ' _ _ _ h; omega
  | succ n ih =>
    intro c σ' E E2 hc hfu H1 H2 H3
    have R : RelN σ' V := RelN_congr R0 (fun j hj => E j (ne_of_mem hj (by decide)) (ne_of_mem hj (by decide)) (ne_of_mem hj (by decide)))
    have hn' := R.n
    unfold fX3_prepare_L28
    by_cases h : (c : Int) < V.2.2.2.2.2.1
    · have e := R.c c (by omega) h
      have hop := opN_rng V c
      have hmono := opN_mono V (c := c + 1) (d := V.2.2.2.2.2.1.toNat) (by omega)
      have hs := opN_s V c
      rw [iT (by omega), cc_barge R (by omega) h]; simp only [bnd_e]
      have nxt : ∀ σ'', fX3_prepare_L28P111 (fX3_prepare_L28 n) x c σ'' = fX3_prepare_L28 n x ((c + 1 : Nat) : Int) σ'' := fun σ'' => by unfold fX3_prepare_L28P111; rw [ck_e (by omega) (by omega)]; rfl
      by_cases o : V.2.2.1.2.2.2.2 c = -1
      · rw [bi_T o] at hs
        rw [iT (by omega)]
        unfold fX3_prepare_L28P75
        rw [H1, iF (by omega), iT (by omega), wr_e hop.1 (by omega), put_ne (by decide), H1, ck_e (by omega) (by omega), st1_e, nxt]
        refine ih (c + 1) _ ?_ ?_ (by omega) (by omega) ?_ ?_ ?_
        · intro j j1 j2 j3; rw [put_ne j1, put_ne j2, E j j1 j2 j3]
        · intro p hp; rw [put_F hp, put_ne (by decide), E2 p hp]
        · rw [put_T rfl, hs]
        · intro j j0 j1
          rw [put_ne (by decide), put_self]
          unfold opF; rw [if_pos o]
          by_cases e2 : j = opN V c
          · rw [zupd_T e2, zupd_T e2]
          · rw [zupd_F e2, zupd_F e2]; exact H2 j j0 (by omega)
        · intro s s0 s1
          rw [put_ne (by decide), put_ne (by decide), H3 s s0 s1, ldN_s, bi_F (by omega)]; omega
      · have hb := brg_b R (by omega) h o
        have hb1 := hb.1
        rw [bi_F o] at hs
        have hl := ldN_rng V c (V.2.2.1.2.2.2.2 c)
        rw [iF (by omega), iT (by omega), rd_e (by omega) (by omega), H3 _ hb1.1 hb1.2, ck_e (by omega) (by omega), wr_e (by omega) (by omega), nxt]
        refine ih (c + 1) _ ?_ ?_ (by omega) (by omega) ?_ ?_ ?_
        · intro j j1 j2 j3; rw [put_ne j3, E j j1 j2 j3]
        · intro p hp; rw [put_ne (by decide), E2 p hp]
        · rw [put_ne (by decide), H1, hs]; omega
        · intro j j0 j1
          rw [put_ne (by decide)]
          unfold opF; rw [if_neg o]; exact H2 j j0 (by omega)
        · intro s s0 s1
          rw [ldN_s]
          by_cases e2 : s = V.2.2.1.2.2.2.2 c
          · rw [put_T e2, bi_T e2.symm, e2]
          · rw [put_F e2, bi_F (fun y => e2 y.symm), H3 s s0 s1]; omega
    · rw [iF (by omega)]
      have hin : c = V.2.2.2.2.2.1.toNat := by omega
      rw [← hin]
      exact ⟨σ', rfl, E, E2, H1, H2, H3⟩
theorem rr_gath (R : RelN σ V) {τ0 : Sg} (hV : vw τ0 = V) : ∀ (n : Nat) (c : Nat) (τ : Sg), (∀ j, j ≠ 0 → j ≠ 34 → j ≠ 37 → τ j = τ0 j) → (∀ p, p ≠ 47 → τ 0 p = τ0 0 p) → (c : Int) ≤ V.2.2.2.2.2.1 → V.2.2.2.2.2.1 - c < (n : Int) → τ 0 47 = opN V c → (∀ j, 0 ≤ j → j < opN V c → τ 34 j = opF V c j) → (∀ s, 0 ≤ s → s < 6 → τ 37 s = ldN V c s) →
    ∃ τ2, fX12_gathers_L28 n c τ = some τ2 ∧ (∀ j, j ≠ 0 → j ≠ 34 → j ≠ 37 → τ2 j = τ0 j) ∧ (∀ p, p ≠ 47 → τ2 0 p = τ0 0 p) ∧ τ2 0 47 = opN V V.2.2.2.2.2.1.toNat ∧ (∀ j, 0 ≤ j → j < opN V V.2.2.2.2.2.1.toNat → τ2 34 j = opF V V.2.2.2.2.2.1.toNat j) ∧ (∀ s, 0 ≤ s → s < 6 → τ2 37 s = ldN V V.2.2.2.2.2.1.toNat s) := by
  have hn := R.n
  have b15 : τ0 15 = V.2.2.1.2.2.2.2 := by rw [← hV]
  have b32 : τ0 0 32 = V.2.2.2.2.2.1 := by rw [← hV]
  intro n
  induction n with
  | zero => intro c τ _ _ _ h; omega
  | succ n ih =>
    intro c τ E E2 hc hfu H1 H2 H3
    unfold fX12_gathers_L28
    have q32 : τ 0 32 = V.2.2.2.2.2.1 := by rw [E2 32 (by decide)]; exact b32
    by_cases h : (c : Int) < V.2.2.2.2.2.1
    · have e := R.c c (by omega) h
      have hop := opN_rng V c
      have hs := opN_s V c
      have nxt : ∀ τ'', fX12_gathers_L28P83 (fX12_gathers_L28 n) c τ'' = fX12_gathers_L28 n ((c + 1 : Nat) : Int) τ'' := fun τ'' => by unfold fX12_gathers_L28P83; rw [ck_e (by omega) (by omega)]; rfl
      rw [iT (by omega), rd_e (by omega) (by omega), E 15 (by decide) (by decide) (by decide), b15]
      by_cases o : V.2.2.1.2.2.2.2 c = -1
      · rw [bi_T o] at hs
        rw [iT (by omega), H1, wr_e hop.1 (by omega), put_ne (by decide), H1, ck_e (by omega) (by omega), st1_e, nxt]
        refine ih (c + 1) _ ?_ ?_ (by omega) (by omega) ?_ ?_ ?_
        · intro j j1 j2 j3; rw [put_ne j1, put_ne j2, E j j1 j2 j3]
        · intro p hp; rw [put_F hp, put_ne (by decide), E2 p hp]
        · rw [put_T rfl, hs]
        · intro j j0 j1
          rw [put_ne (by decide), put_self]
          unfold opF; rw [if_pos o]
          by_cases e2 : j = opN V c
          · rw [zupd_T e2, zupd_T e2]
          · rw [zupd_F e2, zupd_F e2]; exact H2 j j0 (by omega)
        · intro s s0 s1
          rw [put_ne (by decide), put_ne (by decide), H3 s s0 s1, ldN_s, bi_F (by omega)]; omega
      · have hb := brg_b R (by omega) h o
        have hb1 := hb.1
        rw [bi_F o] at hs
        have hl := ldN_rng V c (V.2.2.1.2.2.2.2 c)
        rw [iF (by omega), rd_e (by omega) (by omega), E 15 (by decide) (by decide) (by decide), b15, rd_e (by omega) (by omega), H3 _ hb1.1 hb1.2, ck_e (by omega) (by omega), wr_e (by omega) (by omega), nxt]
        refine ih (c + 1) _ ?_ ?_ (by omega) (by omega) ?_ ?_ ?_
        · intro j j1 j2 j3; rw [put_ne j3, E j j1 j2 j3]
        · intro p hp; rw [put_ne (by decide), E2 p hp]
        · rw [put_ne (by decide), H1, hs]; omega
        · intro j j0 j1
          rw [put_ne (by decide)]
          unfold opF; rw [if_neg o]; exact H2 j j0 (by omega)
        · intro s s0 s1
          rw [ldN_s]
          by_cases e2 : s = V.2.2.1.2.2.2.2 c
          · rw [put_T e2, bi_T e2.symm, e2]
          · rw [put_F e2, bi_F (fun y => e2 y.symm), H3 s s0 s1]; omega
    · rw [iF (by omega)]
      have hin : c = V.2.2.2.2.2.1.toNat := by omega
      rw [← hin]
      exact ⟨τ, rfl, E, E2, H1, H2, H3⟩
end

section
set_option linter.unusedVariables false
variable {σ τ : Sg} {V : Vw} {N : Int}
def nearV (V : Vw) (g c o : Int) : Prop := abI (fireV V c - fireV V o) < g
def fitV (V : Vw) (g c s x : Int) : Prop := (isB V s ∧ holdsV V s (V.2.2.1.2.2.2.1 c)) ∧ (¬ ∃ w, 0 ≤ w ∧ w < x ∧ ¬ safeV V (V.2.2.1.2.2.2.1 c) s (V.2.2.2.1.1 c) w) ∧ ¬ ∃ o, 0 ≤ o ∧ o < V.2.2.2.2.2.1 ∧ (V.2.2.1.2.2.2.2 o = s ∧ nearV V g c o)
theorem abI_sym (a b : Int) : abI (a - b) = abI (b - a) := by unfold abI; split <;> split <;> omega
theorem cc_apart (R : RelN σ V) {g : Int} (hg : σ 32 9 = g) {c o : Int} (c0 : 0 ≤ c) (c1 : c < V.2.2.2.2.2.1) (o0 : 0 ≤ o) (o1 : o < V.2.2.2.2.2.1) : fX3_areApart c o σ = some (bi (¬ nearV V g c o)) := by
  have h1 := fire_rng R c0 c1; have h2 := fire_rng R o0 o1
  unfold fX3_areApart nearV
  have e1 : fX8_fireOf 19 c σ = some (fireV V c) := cc_fire R c0 c1
  have e2 : fX8_fireOf 19 o σ = some (fireV V o) := cc_fire R o0 o1
  have ha : 0 ≤ abI (fireV V c - fireV V o) ∧ abI (fireV V c - fireV V o) ≤ 20000 := by unfold abI; split <;> omega
  rw [e1, e2]; simp only [bnd_e]
  rw [ck_e (by omega) (by omega), ck_e (by omega) (by omega), hg]
  by_cases h : abI (fireV V c - fireV V o) < g
  · rw [iT h, bi_F (fun x => x h)]
  · rw [iF h, bi_T h]
theorem cc_fits (R : RelV σ V) {g x : Int} (hg : σ 32 9 = g) {c s : Int} (c0 : 0 ≤ c) (c1 : c < V.2.2.2.2.2.1) (hx : 0 ≤ x ∧ x ≤ 4) : fX3_fitsAlone c s x σ = some (bi (fitV V g c s x)) := by
  have e := R.c c c0 c1
  have ht := e.2.1
  have hn := R.n
  unfold fX3_fitsAlone
  rw [cc_kind R.toRelN c0 c1]; simp only [bnd_e]
  by_cases hs : isB V s
  · rw [cc_holds R.toRelN hs ht]; simp only [bnd_e]
    by_cases hh : holdsV V s (V.2.2.1.2.2.2.1 c)
    · rw [bi_T hh, iF (by decide)]
      have k1 := srch (L := fun n i => fX3_fitsAlone_L28 n c s x (V.2.2.1.2.2.2.1 c) i σ) (lo := 0) (m := x) (P := fun w => ¬ safeV V (V.2.2.1.2.2.2.1 c) s (V.2.2.2.1.1 c) w) (a := some (.inl ())) (b := some (.inr ()))
        (fun n i i0 i1 hp => by
          unfold fX3_fitsAlone_L28
          rw [iT i1, cc_angle R.toRelN c0 c1]; simp only [bnd_e]
          rw [cc_safe R ht hs e.2.2.2.1 (by omega), bi_F hp]; rfl)
        (fun n i i0 i1 hp => by
          conv => lhs; unfold fX3_fitsAlone_L28
          rw [iT i1, cc_angle R.toRelN c0 c1]; simp only [bnd_e]
          rw [cc_safe R ht hs e.2.2.2.1 (by omega), bi_T (Classical.not_not.mp hp)]; simp only [bnd_e]; rw [iF (by decide), ck_e (by omega) (by omega)])
        (fun n i i0 i1 => by unfold fX3_fitsAlone_L28; rw [iF (by omega)]) fu 0 (by omega) (by rw [fu_i]; omega) fu_pos
      have k2 := srch (L := fun n i => fX3_fitsAlone_L68 n c s i σ) (lo := 0) (m := V.2.2.2.2.2.1) (P := fun o => V.2.2.1.2.2.2.2 o = s ∧ nearV V g c o) (a := some (.inl ())) (b := some (.inr ()))
        (fun n i i0 i1 hp => by
          unfold fX3_fitsAlone_L68
          rw [iT (by omega), cc_barge R.toRelN i0 i1]; simp only [bnd_e]
          rw [iT hp.1, cc_apart R.toRelN hg c0 c1 i0 i1, bi_F (fun y => y hp.2)]; rfl)
        (fun n i i0 i1 hp => by
          conv => lhs; unfold fX3_fitsAlone_L68
          unfold fX3_fitsAlone_L68P105
          rw [iT (by omega), cc_barge R.toRelN i0 i1]; simp only [bnd_e]
          by_cases b : V.2.2.1.2.2.2.2 i = s
          · rw [iT b, cc_apart R.toRelN hg c0 c1 i0 i1, bi_T (fun y => hp ⟨b, y⟩)]; simp only [bnd_e]; rw [iF (by decide), ck_e (by omega) (by omega)]
          · rw [iF b, ck_e (by omega) (by omega)])
        (fun n i i0 i1 => by unfold fX3_fitsAlone_L68; rw [iF (by omega)]) fu 0 (by omega) (by rw [fu_i]; omega) fu_pos
      by_cases w1 : ∃ w, 0 ≤ w ∧ w < x ∧ ¬ safeV V (V.2.2.1.2.2.2.1 c) s (V.2.2.2.1.1 c) w
      · rw [k1.1 w1, bi_F (fun y => y.2.1 w1)]; rfl
      · rw [k1.2 w1]; simp only [bnd_e, Sum.elim_inr]
        by_cases w2 : ∃ o, 0 ≤ o ∧ o < V.2.2.2.2.2.1 ∧ (V.2.2.1.2.2.2.2 o = s ∧ nearV V g c o)
        · rw [k2.1 w2, bi_F (fun y => y.2.2 w2)]; rfl
        · rw [k2.2 w2, bi_T ⟨⟨hs, hh⟩, w1, w2⟩]; rfl
    · rw [bi_F hh, bi_F (fun y => hh y.1.2)]; rfl
  · have : fX8_holds s (V.2.2.1.2.2.2.1 c) σ = some 0 := by unfold fX8_holds; rw [cc_isBarge R.toRelN, bi_F hs]; rfl
    rw [this, bi_F (fun y => hs y.1.1)]; rfl
theorem rr_near (R : RelN σ V) (hV : vw τ = V) {c o : Int} (c0 : 0 ≤ c) (c1 : c < V.2.2.2.2.2.1) (o0 : 0 ≤ o) (o1 : o < V.2.2.2.2.2.1) {β : Type} {K : Int → Option β} : ((fX12_fire o τ).bind fun q27 => (fX12_fire c τ).bind fun q29 => ck (q27 - q29) fun v31 => (fX12_amount v31 τ).bind K) = K (abI (fireV V c - fireV V o)) := by
  have h1 := fire_rng R c0 c1; have h2 := fire_rng R o0 o1
  have R' : RelN σ (vw τ) := by rw [hV]; exact R
  have e32 : τ 0 32 = V.2.2.2.2.2.1 := by rw [← hV]
  have e1 : fX12_fire c τ = some (fireV V c) := by rw [rr_fire R' c0 (by omega)]; unfold fireV; rw [← hV]
  have e2 : fX12_fire o τ = some (fireV V o) := by rw [rr_fire R' o0 (by omega)]; unfold fireV; rw [← hV]
  rw [e1, e2]; simp only [bnd_e]
  rw [ck_e (by omega) (by omega), rr_amount (by omega) (by omega), abI_sym]; simp only [bnd_e]
theorem rr_fits (R : RelN σ V) (hV : vw τ = V) {g x : Int} (hg : τ 0 31 = g) {c s : Int} (c0 : 0 ≤ c) (c1 : c < V.2.2.2.2.2.1) (hx : 0 ≤ x ∧ x ≤ 4) (hs6 : 0 ≤ s ∧ s < 6) : fX12_mayStand c s x τ = some (bi (fitV V g c s x)) := by
  have e := R.c c c0 c1
  have ht := e.2.1
  have hn := R.n
  have R' : RelN σ (vw τ) := by rw [hV]; exact R
  have e32 : τ 0 32 = V.2.2.2.2.2.1 := by rw [← hV]
  have e14 : τ 14 = V.2.2.1.2.2.2.1 := by rw [← hV]
  have e15 : τ 15 = V.2.2.1.2.2.2.2 := by rw [← hV]
  have e16 : τ 16 = V.2.2.2.1.1 := by rw [← hV]
  unfold fX12_mayStand
  rw [rr_isBarge, hV]; simp only [bnd_e]
  by_cases hs : isB V s
  · rw [bi_T hs, iF (by decide), rd_e c0 (by omega), e14]
    have hh' := rr_holds R' (s := s) (k := V.2.2.1.2.2.2.1 c) (by rw [hV]; exact hs) (by rw [hV]; exact ht)
    rw [hV] at hh'
    rw [hh']; simp only [bnd_e]
    by_cases hh : holdsV V s (V.2.2.1.2.2.2.1 c)
    · rw [bi_T hh, iF (by decide)]
      have sf : ∀ w, 0 ≤ w → w < x → fX12_isSafe (V.2.2.1.2.2.2.1 c) s (V.2.2.2.1.1 c) w τ = some (bi (safeV V (V.2.2.1.2.2.2.1 c) s (V.2.2.2.1.1 c) w)) := fun w w0 w1 => by
        have := rr_safe R' (k := V.2.2.1.2.2.2.1 c) (s := s) (a := V.2.2.2.1.1 c) (w := w) (by rw [hV]; exact ht) (by rw [hV]; exact hs) e.2.2.2.1 (by omega)
        rw [hV] at this; exact this
      have k1 := srch (L := fun n i => fX12_mayStand_L27 n c s x i τ) (lo := 0) (m := x) (P := fun w => ¬ safeV V (V.2.2.1.2.2.2.1 c) s (V.2.2.2.1.1 c) w) (a := some (.inl ())) (b := some (.inr ()))
        (fun n i i0 i1 hp => by
          unfold fX12_mayStand_L27
          rw [iT i1, rd_e c0 (by omega), rd_e c0 (by omega), e14, e16, sf i i0 i1, bi_F hp]; rfl)
        (fun n i i0 i1 hp => by
          conv => lhs; unfold fX12_mayStand_L27
          rw [iT i1, rd_e c0 (by omega), rd_e c0 (by omega), e14, e16, sf i i0 i1, bi_T (Classical.not_not.mp hp)]; simp only [bnd_e]; rw [iF (by decide), ck_e (by omega) (by omega)])
        (fun n i i0 i1 => by unfold fX12_mayStand_L27; rw [iF (by omega)]) fu 0 (by omega) (by rw [fu_i]; omega) fu_pos
      have k2 := srch (L := fun n i => fX12_mayStand_L66 n c s i τ) (lo := 0) (m := V.2.2.2.2.2.1) (P := fun o => V.2.2.1.2.2.2.2 o = s ∧ nearV V g c o) (a := some (.inl ())) (b := some (.inr ()))
        (fun n i i0 i1 hp => by
          unfold fX12_mayStand_L66
          rw [iT (by omega), rd_e i0 (by omega), e15, iT hp.1, rr_near R hV c0 c1 i0 i1, hg]
          exact iT hp.2)
        (fun n i i0 i1 hp => by
          conv => lhs; unfold fX12_mayStand_L66
          unfold fX12_mayStand_L66P110
          rw [iT (by omega), rd_e i0 (by omega), e15]
          by_cases b : V.2.2.1.2.2.2.2 i = s
          · rw [iT b, rr_near R hV c0 c1 i0 i1, hg, iF (show ¬ (abI (fireV V c - fireV V i) < g) from fun y => hp ⟨b, y⟩), ck_e (by omega) (by omega)]
          · rw [iF b, ck_e (by omega) (by omega)])
        (fun n i i0 i1 => by unfold fX12_mayStand_L66; rw [iF (by omega)]) fu 0 (by omega) (by rw [fu_i]; omega) fu_pos
      by_cases w1 : ∃ w, 0 ≤ w ∧ w < x ∧ ¬ safeV V (V.2.2.1.2.2.2.1 c) s (V.2.2.2.1.1 c) w
      · rw [k1.1 w1, bi_F (fun y => y.2.1 w1)]; rfl
      · rw [k1.2 w1]; simp only [bnd_e, Sum.elim_inr]
        by_cases w2 : ∃ o, 0 ≤ o ∧ o < V.2.2.2.2.2.1 ∧ (V.2.2.1.2.2.2.2 o = s ∧ nearV V g c o)
        · rw [k2.1 w2, bi_F (fun y => y.2.2 w2)]; rfl
        · rw [k2.2 w2, bi_T ⟨⟨hs, hh⟩, w1, w2⟩]; rfl
    · rw [bi_F hh, bi_F (fun y => hh y.1.2)]; rfl
  · rw [bi_F hs, bi_F (fun y => hs y.1.1)]; rfl

theorem cc_clash (R : RelN σ V) {g m : Int} (hg : σ 32 9 = g) (hm : σ 32 10 = m) (hm8 : 0 ≤ m ∧ m ≤ 8) {O : Int → Int} (hO : ∀ j, 0 ≤ j → j < m → σ 33 j = O j ∧ 0 ≤ O j ∧ O j < V.2.2.2.2.2.1) {i : Int} (hi : 0 ≤ i ∧ i < m) :
    ∀ (n : Nat) (j : Nat) (x : Int), (j : Int) ≤ m → m - j < (n : Int) → msk x (fun q => q < j ∧ nearV V g (O i) (O q)) → ∃ y, fX3_clashesOf_L4 n i x j σ = some y ∧ msk y (fun q => (q : Int) < m ∧ nearV V g (O i) (O q)) := by
  intro n
  induction n with
  | zero => intro j x _ h; omega
  | succ n ih =>
    intro j x hj hn hx
    unfold fX3_clashesOf_L4
    by_cases c : (j : Int) < m
    · obtain ⟨a1, a2, a3⟩ := hO i hi.1 hi.2
      obtain ⟨b1, b2, b3⟩ := hO j (by omega) c
      rw [iT (by omega), iT (by omega), iF (by omega), iT (by omega), rd_e (by omega) (by omega), rd_e (by omega) (by omega), a1, b1, cc_apart R hg a2 a3 b2 b3]; simp only [bnd_e]
      unfold fX3_clashesOf_L4P53
      by_cases nr : nearV V g (O i) (O j)
      · rw [bi_F (fun y => y nr), iT rfl, ck_e (by omega) (by omega)]
        refine ih (j + 1) _ (by omega) (by omega) ?_
        obtain ⟨h1, h2⟩ := msk_or hx (i := j) (by omega)
        refine ⟨h1, fun q hq => ?_⟩
        rw [h2 q hq]
        constructor
        · rintro (⟨y1, y2⟩ | rfl)
          · exact ⟨by omega, y2⟩
          · exact ⟨by omega, nr⟩
        · rintro ⟨y1, y2⟩
          by_cases e : q = j
          · exact .inr e
          · exact .inl ⟨by omega, y2⟩
      · rw [bi_T nr, iF (by decide), ck_e (by omega) (by omega)]
        refine ih (j + 1) _ (by omega) (by omega) ?_
        obtain ⟨h1, h2⟩ := hx
        refine ⟨h1, fun q hq => ?_⟩
        rw [h2 q hq]
        constructor
        · rintro ⟨y1, y2⟩; exact ⟨by omega, y2⟩
        · rintro ⟨y1, y2⟩
          refine ⟨?_, y2⟩
          by_cases e : q = j
          · exact absurd (e ▸ y2) nr
          · omega
    · rw [iF (by omega)]
      refine ⟨x, rfl, hx.1, fun q hq => ?_⟩
      rw [hx.2 q hq]
      constructor
      · rintro ⟨y1, y2⟩; exact ⟨by omega, y2⟩
      · rintro ⟨y1, y2⟩; exact ⟨by omega, y2⟩
theorem cc_prepS (R0 : RelV σ V) {g x i : Int} (hg : σ 32 9 = g) (hx : 0 ≤ x ∧ x ≤ 4) (hi : 0 ≤ i ∧ i < 8) {c : Int} (hc : σ 33 i = c ∧ 0 ≤ c ∧ c < V.2.2.2.2.2.1) : ∀ (n : Nat) (s : Int) (σ' : Sg), (∀ j, j ≠ 34 → σ' j = σ j) → 0 ≤ s → 6 - s < (n : Int) → 0 < n →
    ∃ σ2, fX3_prepare_L136 n x i s σ' = some σ2 ∧ (∀ j, j ≠ 34 → σ2 j = σ j) ∧ (∀ t, s ≤ t → t < 6 → σ2 34 (6 * i + t) = bi (fitV V g c t x)) ∧ (∀ p, ¬ (6 * i + s ≤ p ∧ p < 6 * i + 6) → σ2 34 p = σ' 34 p) := by
  intro n
  induction n with
  | zero => intro s σ' _ _ _ h; omega
  | succ n ih =>
    intro s σ' E h0 h1 _
    unfold fX3_prepare_L136
    by_cases h : s < 6
    · have R : RelV σ' V := RelV_congr R0 (fun j hj => E j (ne_of_mem hj (by decide)))
      rw [iT h, ck_e (by omega) (by omega), ck_e (by omega) (by omega), rd_e hi.1 (by omega), E 33 (by decide), hc.1, cc_fits R (g := g) (by rw [E 32 (by decide)]; exact hg) hc.2.1 hc.2.2 hx]; simp only [bnd_e]
      have hb := bi_rng (p := fitV V g c s x)
      rw [wrZ_e (by omega) (by omega) (by omega) (by omega), ck_e (by omega) (by omega)]
      obtain ⟨σ2, a1, a2, a3, a4⟩ := ih (s + 1) (put σ' 34 (i * 6 + s) (bi (fitV V g c s x))) (fun j hj => by rw [put_ne hj, E j hj]) (by omega) (by omega) (by omega)
      refine ⟨σ2, a1, a2, ?_, ?_⟩
      · intro t t0 t1
        by_cases e : t = s
        · rw [e, a4 _ (by omega), put_T (by omega)]
        · exact a3 t (by omega) t1
      · intro p hp; rw [a4 p (by omega), put_F (by omega)]
    · rw [iF h]; exact ⟨σ', rfl, E, fun t t0 t1 => by omega, fun _ _ => rfl⟩
theorem cc_prep2 (R0 : RelV σ V) {g x m : Int} (hg : σ 32 9 = g) (hm : σ 32 10 = m) (hm8 : 0 ≤ m ∧ m ≤ 8) (hx : 0 ≤ x ∧ x ≤ 4) {O : Int → Int} (hO : ∀ j, 0 ≤ j → j < m → σ 33 j = O j ∧ 0 ≤ O j ∧ O j < V.2.2.2.2.2.1) : ∀ (n : Nat) (i : Int) (σ' : Sg), (∀ j, j ≠ 34 → j ≠ 35 → σ' j = σ j) → 0 ≤ i → m - i < (n : Int) → 0 < n →
    ∃ σ2, fX3_prepare_L119 n x i σ' = some σ2 ∧ (∀ j, j ≠ 34 → j ≠ 35 → σ2 j = σ j) ∧ (∀ t s, i ≤ t → t < m → 0 ≤ s → s < 6 → σ2 34 (6 * t + s) = bi (fitV V g (O t) s x)) ∧ (∀ t, i ≤ t → t < m → msk (σ2 35 t) (fun q => (q : Int) < m ∧ nearV V g (O t) (O q))) ∧ (∀ p, p < 6 * i → σ2 34 p = σ' 34 p) ∧ (∀ p, p < i → σ2 35 p = σ' 35 p) := by
  intro n
  induction n with
  | zero => intro i σ' _ _ _ h; omega
  | succ n ih =>
    intro i σ' E h0 h1 _
    have R : RelV σ' V := RelV_congr R0 (fun j hj => E j (ne_of_mem hj (by decide)) (ne_of_mem hj (by decide)))
    have q9 : σ' 32 9 = g := by rw [E 32 (by decide) (by decide)]; exact hg
    have q10 : σ' 32 10 = m := by rw [E 32 (by decide) (by decide)]; exact hm
    have qO : ∀ j, 0 ≤ j → j < m → σ' 33 j = O j ∧ 0 ≤ O j ∧ O j < V.2.2.2.2.2.1 := fun j j0 j1 => by rw [E 33 (by decide) (by decide)]; exact hO j j0 j1
    unfold fX3_prepare_L119
    by_cases h : i < m
    · obtain ⟨σ1, a1, a2, a3, a4⟩ := cc_prepS R q9 hx (i := i) (by omega) (qO i h0 h) fu 0 σ' (fun _ _ => rfl) (by omega) (by rw [fu_i]; omega) fu_pos
      have R1 : RelN σ1 V := RelN_congr R.toRelN (fun j hj => a2 j (ne_of_mem hj (by decide)))
      obtain ⟨y, b1, b2⟩ := cc_clash R1 (g := g) (m := m) (by rw [a2 32 (by decide)]; exact q9) (by rw [a2 32 (by decide)]; exact q10) hm8 (O := O) (fun j j0 j1 => by rw [a2 33 (by decide)]; exact qO j j0 j1) (i := i) ⟨h0, h⟩ fu 0 0 (by omega) (by rw [fu_i]; omega) ⟨by omega, fun q hq => by simp⟩
      have co : fX3_clashesOf i σ1 = some y := by
        unfold fX3_clashesOf; rw [show ((0 : Nat) : Int) = 0 from rfl] at b1; rw [b1]; rfl
      rw [iT (by omega), iT (by omega), a1]; simp only [bnd_e]
      rw [co]; simp only [bnd_e]
      rw [wr_e h0 (by omega), ck_e (by omega) (by omega)]
      obtain ⟨σ2, d1, d2, d3, d4, d5, d6⟩ := ih (i + 1) (put σ1 35 i y) (fun j j1 j2 => by rw [put_ne j2, a2 j j1, E j j1 j2]) (by omega) (by omega) (by omega)
      refine ⟨σ2, d1, d2, ?_, ?_, ?_, ?_⟩
      · intro t s t0 t1 s0 s1
        by_cases e : t = i
        · rw [e, d5 _ (by omega), put_ne (by decide)]; exact a3 s s0 s1
        · exact d3 t s (by omega) t1 s0 s1
      · intro t t0 t1
        by_cases e : t = i
        · rw [e, d6 _ (by omega), put_T rfl]; exact b2
        · exact d4 t (by omega) t1
      · intro p hp; rw [d5 p (by omega), put_ne (by decide), a4 p (by omega)]
      · intro p hp; rw [d6 p (by omega), put_F (by omega), a2 35 (by decide)]
    · rw [iF (by omega)]; exact ⟨σ', rfl, E, fun t s t0 t1 => by omega, fun t t0 t1 => by omega, fun _ _ => rfl, fun _ _ => rfl⟩

abbrev LayC (σ : Sg) (V : Vw) (g m x : Int) (O : Int → Int) : Prop := (σ 32 9 = g) ∧ (σ 32 10 = m) ∧ (∀ j, 0 ≤ j → j < m → σ 33 j = O j) ∧ (∀ t s, 0 ≤ t → t < m → 0 ≤ s → s < 6 → σ 34 (6 * t + s) = bi (fitV V g (O t) s x)) ∧ (∀ t, 0 ≤ t → t < m → msk (σ 35 t) (fun q => (q : Int) < m ∧ nearV V g (O t) (O q)))
theorem LayC.hg {σ : Sg} {V : Vw} {g m x : Int} {O : Int → Int} (h : LayC σ V g m x O) : σ 32 9 = g := h.1
theorem LayC.hm {σ : Sg} {V : Vw} {g m x : Int} {O : Int → Int} (h : LayC σ V g m x O) : σ 32 10 = m := h.2.1
theorem LayC.ho {σ : Sg} {V : Vw} {g m x : Int} {O : Int → Int} (h : LayC σ V g m x O) : ∀ j, 0 ≤ j → j < m → σ 33 j = O j := h.2.2.1
theorem LayC.hf {σ : Sg} {V : Vw} {g m x : Int} {O : Int → Int} (h : LayC σ V g m x O) : ∀ t s, 0 ≤ t → t < m → 0 ≤ s → s < 6 → σ 34 (6 * t + s) = bi (fitV V g (O t) s x) := h.2.2.2.1
theorem LayC.hk {σ : Sg} {V : Vw} {g m x : Int} {O : Int → Int} (h : LayC σ V g m x O) : ∀ t, 0 ≤ t → t < m → msk (σ 35 t) (fun q => (q : Int) < m ∧ nearV V g (O t) (O q)) := h.2.2.2.2
theorem LayC.mk {σ : Sg} {V : Vw} {g m x : Int} {O : Int → Int} (hg : σ 32 9 = g) (hm : σ 32 10 = m) (ho : ∀ j, 0 ≤ j → j < m → σ 33 j = O j) (hf : ∀ t s, 0 ≤ t → t < m → 0 ≤ s → s < 6 → σ 34 (6 * t + s) = bi (fitV V g (O t) s x)) (hk : ∀ t, 0 ≤ t → t < m → msk (σ 35 t) (fun q => (q : Int) < m ∧ nearV V g (O t) (O q))) : LayC σ V g m x O := ⟨hg, hm, ho, hf, hk⟩
abbrev LayR (τ : Sg) (V : Vw) (g m x : Int) (O : Int → Int) : Prop := (τ 0 31 = g) ∧ (τ 0 47 = m) ∧ (∀ j, 0 ≤ j → j < m → τ 34 j = O j) ∧ (∀ t s, 0 ≤ t → t < m → 0 ≤ s → s < 6 → τ 38 (6 * t + s) = bi (fitV V g (O t) s x))
theorem LayR.hg {τ : Sg} {V : Vw} {g m x : Int} {O : Int → Int} (h : LayR τ V g m x O) : τ 0 31 = g := h.1
theorem LayR.hm {τ : Sg} {V : Vw} {g m x : Int} {O : Int → Int} (h : LayR τ V g m x O) : τ 0 47 = m := h.2.1
theorem LayR.ho {τ : Sg} {V : Vw} {g m x : Int} {O : Int → Int} (h : LayR τ V g m x O) : ∀ j, 0 ≤ j → j < m → τ 34 j = O j := h.2.2.1
theorem LayR.hf {τ : Sg} {V : Vw} {g m x : Int} {O : Int → Int} (h : LayR τ V g m x O) : ∀ t s, 0 ≤ t → t < m → 0 ≤ s → s < 6 → τ 38 (6 * t + s) = bi (fitV V g (O t) s x) := h.2.2.2
theorem LayR.mk {τ : Sg} {V : Vw} {g m x : Int} {O : Int → Int} (hg : τ 0 31 = g) (hm : τ 0 47 = m) (ho : ∀ j, 0 ≤ j → j < m → τ 34 j = O j) (hf : ∀ t s, 0 ≤ t → t < m → 0 ≤ s → s < 6 → τ 38 (6 * t + s) = bi (fitV V g (O t) s x)) : LayR τ V g m x O := ⟨hg, hm, ho, hf⟩
theorem cc_prep (R : RelV σ V) {g x : Int} (hx : 0 ≤ x ∧ x ≤ 4) (h8 : opN V V.2.2.2.2.2.1.toNat ≤ 8) : ∃ σ', fX3_prepare g x σ = some σ' ∧ (∀ j, ¬ (32 ≤ j ∧ j ≤ 37) → σ' j = σ j) ∧ LayC σ' V g (opN V V.2.2.2.2.2.1.toNat) x (opF V V.2.2.2.2.2.1.toNat) ∧ (∀ s, 0 ≤ s → s < 6 → σ' 36 s = ldN V V.2.2.2.2.2.1.toNat s) ∧ (∀ s, 0 ≤ s → s < 6 → σ' 37 s = 0) := by
  have hn := R.n
  have st : fX3_prepare g x σ = (fX3_prepare_L28 fu x 0 (fillA (fillA (put (put σ 32 9 g) 32 10 0) 36 6 0) 37 6 0)).bind fun q42 => (fX3_prepare_L119 fu x 0 q42).bind fun q67 => some q67 := by
    unfold fX3_prepare; rw [st1_e, st1_e, filI_e, filI_e]
  generalize hS : fillA (fillA (put (put σ 32 9 g) 32 10 0) 36 6 0) 37 6 0 = σ0 at st
  have z : ∀ j, ¬ (32 ≤ j ∧ j ≤ 37) → σ0 j = σ j := fun j hj => by rw [← hS, fillA_ne (by omega), fillA_ne (by omega), put_ne (by omega), put_ne (by omega)]
  have z9 : σ0 32 9 = g := by rw [← hS, fillA_ne (by decide), fillA_ne (by decide), put_F (by decide), put_T rfl]
  have z10 : σ0 32 10 = 0 := by rw [← hS, fillA_ne (by decide), fillA_ne (by decide), put_T rfl]
  have z36 : ∀ s, 0 ≤ s → s < 6 → σ0 36 s = 0 := fun s s0 s1 => by rw [← hS, fillA_ne (by decide), fillA_at, iT ⟨s0, by omega⟩]
  have z37 : ∀ s, 0 ≤ s → s < 6 → σ0 37 s = 0 := fun s s0 s1 => by rw [← hS, fillA_at, iT ⟨s0, by omega⟩]
  have R0 : RelV σ0 V := RelV_congr R (fun j hj => z j (by simp only [List.mem_cons, List.not_mem_nil, or_false] at hj; omega))
  obtain ⟨σ1, a1, a2, a3, a4, a5, a6⟩ := cc_prep1 R0.toRelN h8 (x := x) fu 0 σ0 (fun _ _ _ _ => rfl) (fun _ _ => rfl) (by omega) (by rw [fu_i]; omega) z10 (fun j j0 j1 => by have := opN_rng V 0; omega) (fun s s0 s1 => by rw [z36 s s0 s1]; rfl)
  have R1 : RelV σ1 V := RelV_congr R0 (fun j hj => a2 j (ne_of_mem hj (by decide)) (ne_of_mem hj (by decide)) (ne_of_mem hj (by decide)))
  have hop := opN_rng V V.2.2.2.2.2.1.toNat
  have hO : ∀ j, 0 ≤ j → j < opN V V.2.2.2.2.2.1.toNat → σ1 33 j = opF V V.2.2.2.2.2.1.toNat j ∧ 0 ≤ opF V V.2.2.2.2.2.1.toNat j ∧ opF V V.2.2.2.2.2.1.toNat j < V.2.2.2.2.2.1 := fun j j0 j1 => by
    have := opF_rng V V.2.2.2.2.2.1.toNat j j0 j1
    exact ⟨a5 j j0 j1, this.1, by omega⟩
  obtain ⟨σ2, b1, b2, b3, b4, -, -⟩ := cc_prep2 R1 (g := g) (x := x) (m := opN V V.2.2.2.2.2.1.toNat) (by rw [a3 9 (by decide)]; exact z9) a4 ⟨hop.1, h8⟩ hx hO fu 0 σ1 (fun _ _ _ => rfl) (by omega) (by rw [fu_i]; omega) fu_pos
  refine ⟨σ2, ?_, ?_, ⟨?_, ?_, ?_, ?_, ?_⟩, ?_, ?_⟩
  · rw [show ((0 : Nat) : Int) = 0 from rfl] at a1
    rw [st, a1]; simp only [bnd_e]; rw [b1]; rfl
  · intro j hj; rw [b2 j (by omega) (by omega), a2 j (by omega) (by omega) (by omega), z j hj]
  · rw [b2 32 (by decide) (by decide), a3 9 (by decide)]; exact z9
  · rw [b2 32 (by decide) (by decide)]; exact a4
  · intro j j0 j1; rw [b2 33 (by decide) (by decide)]; exact a5 j j0 j1
  · intro t s t0 t1 s0 s1; exact b3 t s t0 t1 s0 s1
  · intro t t0 t1; exact b4 t t0 t1
  · intro s s0 s1; rw [b2 36 (by decide) (by decide)]; exact a6 s s0 s1
  · intro s s0 s1; rw [b2 37 (by decide) (by decide), a2 37 (by decide) (by decide) (by decide)]; exact z37 s s0 s1
theorem rr_gathers (R : RelN σ V) (hV : vw τ = V) : ∃ τ', fX12_gathers τ = some τ' ∧ (∀ j, j ≠ 0 → j ≠ 34 → j ≠ 37 → τ' j = τ j) ∧ (∀ p, p ≠ 47 → τ' 0 p = τ 0 p) ∧ τ' 0 47 = opN V V.2.2.2.2.2.1.toNat ∧ (∀ j, 0 ≤ j → j < opN V V.2.2.2.2.2.1.toNat → τ' 34 j = opF V V.2.2.2.2.2.1.toNat j) ∧ (∀ s, 0 ≤ s → s < 6 → τ' 37 s = ldN V V.2.2.2.2.2.1.toNat s) := by
  have hn := R.n
  obtain ⟨τ1, a1, a2, a3, a4⟩ := fil_loop (L := fun n x s => fX12_gathers_L7 n x s) (i := 37) (m := 6) (v := 0) (fun n x s h0 h1 => by
    conv => lhs; unfold fX12_gathers_L7
    rw [iT h1, wr_e h0 (by omega), ck_e (by omega) (by omega)]) (fun n x s h => by unfold fX12_gathers_L7; rw [iF (by omega)]) fu 0 (put τ 0 47 0) (by omega) (by rw [fu_i]; omega) fu_pos
  have hV1 : vw τ1 = V := by
    rw [← hV]
    exact vw_congr (fun j hj => by rw [a2 j (ne_of_mem hj (by decide)), put_ne (ne_of_mem hj (by decide))]) (by rw [a2 0 (by decide), put_F (by decide)]) (by rw [a2 0 (by decide), put_F (by decide)]) (by rw [a2 0 (by decide), put_F (by decide)]) (by rw [a2 0 (by decide), put_F (by decide)])
  obtain ⟨τ2, b1, b2, b3, b4, b5, b6⟩ := rr_gath R hV1 fu 0 τ1 (fun _ _ _ _ => rfl) (fun _ _ => rfl) (by omega) (by rw [fu_i]; omega) (by rw [a2 0 (by decide), put_T rfl]; rfl) (fun j j0 j1 => by have := opN_rng V 0; omega) (fun s s0 s1 => by rw [a3 s s0 s1]; rfl)
  refine ⟨τ2, ?_, ?_, ?_, b4, b5, b6⟩
  · unfold fX12_gathers
    rw [show ((0 : Nat) : Int) = 0 from rfl] at b1
    rw [st1_e, a1]; simp only [bnd_e]; rw [b1]; rfl
  · intro j j0 j34 j37; rw [b2 j j0 j34 j37, a2 j j37, put_ne j0]
  · intro p hp; rw [b3 p hp, a2 0 (by decide), put_F hp]
theorem rr_fitsS (R : RelN σ V) {τ0 : Sg} (hV : vw τ0 = V) {g x i : Int} (hg : τ0 0 31 = g) (hx : 0 ≤ x ∧ x ≤ 4) (hi : 0 ≤ i ∧ i < 8) {c : Int} (hc : τ0 34 i = c ∧ 0 ≤ c ∧ c < V.2.2.2.2.2.1) : ∀ (n : Nat) (s : Int) (τ : Sg), (∀ j, j ≠ 38 → τ j = τ0 j) → 0 ≤ s → 6 - s < (n : Int) → 0 < n →
    ∃ τ2, fX12_findFits_L12 n x i s τ = some τ2 ∧ (∀ j, j ≠ 38 → τ2 j = τ0 j) ∧ (∀ t, s ≤ t → t < 6 → τ2 38 (6 * i + t) = bi (fitV V g c t x)) ∧ (∀ p, ¬ (6 * i + s ≤ p ∧ p < 6 * i + 6) → τ2 38 p = τ 38 p) := by
  intro n
  induction n with
  | zero => intro s τ _ _ _ h; omega
  | succ n ih =>
    intro s τ E h0 h1 _
    unfold fX12_findFits_L12
    by_cases h : s < 6
    · have hV' : vw τ = V := by
        rw [← hV]
        exact vw_congr (fun j hj => E j (ne_of_mem hj (by decide))) (by rw [E 0 (by decide)]) (by rw [E 0 (by decide)]) (by rw [E 0 (by decide)]) (by rw [E 0 (by decide)])
      rw [iT h, ck_e (by omega) (by omega), ck_e (by omega) (by omega), rd_e hi.1 (by omega), E 34 (by decide), hc.1, rr_fits R hV' (g := g) (by rw [E 0 (by decide)]; exact hg) hc.2.1 hc.2.2 hx ⟨h0, h⟩]; simp only [bnd_e]
      have hb := bi_rng (p := fitV V g c s x)
      rw [wrZ_e (by omega) (by omega) (by omega) (by omega), ck_e (by omega) (by omega)]
      obtain ⟨τ2, a1, a2, a3, a4⟩ := ih (s + 1) (put τ 38 (6 * i + s) (bi (fitV V g c s x))) (fun j hj => by rw [put_ne hj, E j hj]) (by omega) (by omega) (by omega)
      refine ⟨τ2, a1, a2, ?_, ?_⟩
      · intro t t0 t1
        by_cases e : t = s
        · rw [e, a4 _ (by omega), put_T rfl]
        · exact a3 t (by omega) t1
      · intro p hp; rw [a4 p (by omega), put_F (by omega)]
    · rw [iF h]; exact ⟨τ, rfl, E, fun t t0 t1 => by omega, fun _ _ => rfl⟩
theorem rr_fitsL (R : RelN σ V) {τ0 : Sg} (hV : vw τ0 = V) {g x m : Int} (hg : τ0 0 31 = g) (hm : τ0 0 47 = m) (hm8 : 0 ≤ m ∧ m ≤ 8) (hx : 0 ≤ x ∧ x ≤ 4) {O : Int → Int} (hO : ∀ j, 0 ≤ j → j < m → τ0 34 j = O j ∧ 0 ≤ O j ∧ O j < V.2.2.2.2.2.1) : ∀ (n : Nat) (i : Int) (τ : Sg), (∀ j, j ≠ 38 → τ j = τ0 j) → 0 ≤ i → m - i < (n : Int) → 0 < n →
    ∃ τ2, fX12_findFits_L2 n x i τ = some τ2 ∧ (∀ j, j ≠ 38 → τ2 j = τ0 j) ∧ (∀ t s, i ≤ t → t < m → 0 ≤ s → s < 6 → τ2 38 (6 * t + s) = bi (fitV V g (O t) s x)) ∧ (∀ p, p < 6 * i → τ2 38 p = τ 38 p) := by
  intro n
  induction n with
  | zero => intro i τ _ _ _ h; omega
  | succ n ih =>
    intro i τ E h0 h1 _
    unfold fX12_findFits_L2
    by_cases h : i < m
    · have hV' : vw τ = V := by
        rw [← hV]
        exact vw_congr (fun j hj => E j (ne_of_mem hj (by decide))) (by rw [E 0 (by decide)]) (by rw [E 0 (by decide)]) (by rw [E 0 (by decide)]) (by rw [E 0 (by decide)])
      obtain ⟨τ1, a1, a2, a3, a4⟩ := rr_fitsS R hV' (g := g) (by rw [E 0 (by decide)]; exact hg) hx (i := i) (by omega) (c := O i) (by rw [E 34 (by decide)]; exact hO i h0 h) fu 0 τ (fun _ _ => rfl) (by omega) (by rw [fu_i]; omega) fu_pos
      rw [E 0 (by decide), iT (by omega), a1]; simp only [bnd_e]
      rw [ck_e (by omega) (by omega)]
      obtain ⟨τ2, d1, d2, d3, d4⟩ := ih (i + 1) τ1 (fun j j1 => by rw [a2 j j1, E j j1]) (by omega) (by omega) (by omega)
      refine ⟨τ2, d1, d2, ?_, ?_⟩
      · intro t s t0 t1 s0 s1
        by_cases e : t = i
        · rw [e, d4 _ (by omega)]; exact a3 s s0 s1
        · exact d3 t s (by omega) t1 s0 s1
      · intro p hp; rw [d4 p (by omega), a4 p (by omega)]
    · rw [E 0 (by decide), iF (by omega)]; exact ⟨τ, rfl, E, fun t s t0 t1 => by omega, fun _ _ => rfl⟩
end

section
set_option linter.unusedVariables false
variable {σ τ : Sg} {V : Vw} {N : Int}
theorem mxI_e (a b : Int) : a ≤ mxI a b ∧ b ≤ mxI a b ∧ (mxI a b = a ∨ mxI a b = b) := by unfold mxI; split <;> omega
def grF (f : Int → Int) : Nat → Int → Int → Int
  | 0, a, _ => a
  | n + 1, a, s => grF f n (mxI a (f s)) (s + 1)
def gr (f : Int → Int) : Int := grF f 6 0 0
theorem grF_e (f : Int → Int) : ∀ (n : Nat) (a s : Int), a ≤ grF f n a s ∧ (∀ t, s ≤ t → t < s + n → f t ≤ grF f n a s) ∧ (grF f n a s = a ∨ ∃ t, (s ≤ t ∧ t < s + n) ∧ grF f n a s = f t)
  | 0, a, s => ⟨Int.le_refl _, fun t t0 t1 => by omega, .inl rfl⟩
  | n + 1, a, s => by
    obtain ⟨h1, h2, h3⟩ := grF_e f n (mxI a (f s)) (s + 1)
    have hm := mxI_e a (f s)
    show a ≤ grF f n (mxI a (f s)) (s + 1) ∧ (∀ t, s ≤ t → t < s + ((n + 1 : Nat) : Int) → f t ≤ grF f n (mxI a (f s)) (s + 1)) ∧ (grF f n (mxI a (f s)) (s + 1) = a ∨ ∃ t, (s ≤ t ∧ t < s + ((n + 1 : Nat) : Int)) ∧ grF f n (mxI a (f s)) (s + 1) = f t)
    refine ⟨by omega, fun t t0 t1 => ?_, ?_⟩
    · by_cases e : t = s
      · rw [e]; omega
      · exact h2 t (by omega) (by omega)
    · rcases h3 with h3 | ⟨t, t1, t2⟩
      · rcases hm.2.2 with x | x
        · left; omega
        · right; exact ⟨s, by omega, by omega⟩
      · right; exact ⟨t, by omega, t2⟩
theorem gr_e (f : Int → Int) : 0 ≤ gr f ∧ (∀ t, 0 ≤ t → t < 6 → f t ≤ gr f) ∧ (gr f = 0 ∨ ∃ t, (0 ≤ t ∧ t < 6) ∧ gr f = f t) := by
  obtain ⟨h1, h2, h3⟩ := grF_e f 6 0 0
  refine ⟨h1, fun t t0 t1 => h2 t t0 (by omega), ?_⟩
  rcases h3 with h3 | ⟨t, t1, t2⟩
  · exact .inl h3
  · exact .inr ⟨t, by omega, t2⟩
theorem gr_cong {f g : Int → Int} (h : ∀ s, 0 ≤ s → s < 6 → f s = g s) : gr f = gr g := by
  obtain ⟨a1, a2, a3⟩ := gr_e f
  obtain ⟨b1, b2, b3⟩ := gr_e g
  rcases a3 with a3 | ⟨t, t1, t2⟩
  · rcases b3 with b3 | ⟨u, u1, u2⟩
    · omega
    · have := a2 u u1.1 u1.2; have := h u u1.1 u1.2; omega
  · have q1 := b2 t t1.1 t1.2; have q2 := h t t1.1 t1.2
    rcases b3 with b3 | ⟨u, u1, u2⟩
    · omega
    · have := a2 u u1.1 u1.2; have := h u u1.1 u1.2; omega
theorem gr_inc {f g : Int → Int} {s : Int} (hs : 0 ≤ s ∧ s < 6) (h0 : 0 ≤ f s) (hg : g s = f s + 1) (h : ∀ t, 0 ≤ t → t < 6 → t ≠ s → g t = f t) : gr g = mxI (gr f) (g s) := by
  obtain ⟨a1, a2, a3⟩ := gr_e f
  obtain ⟨b1, b2, b3⟩ := gr_e g
  have hm := mxI_e (gr f) (g s)
  have h1 := b2 s hs.1 hs.2
  have le : gr f ≤ gr g := by
    rcases a3 with a3 | ⟨t, t1, t2⟩
    · omega
    · by_cases e : t = s
      · rw [t2, e]; omega
      · have := b2 t t1.1 t1.2; have := h t t1.1 t1.2 e; omega
  rcases b3 with b3 | ⟨u, u1, u2⟩
  · omega
  · by_cases e : u = s
    · rw [e] at u2; omega
    · have := a2 u u1.1 u1.2; have := h u u1.1 u1.2 e; omega
theorem cc_most (n : Nat) : ∀ (a s : Int), 0 ≤ s → s ≤ 6 → 6 - s < (n : Int) → fX3_mostLoad_L4 n a s σ = some (grF (σ 36) (6 - s).toNat a s) := by
  induction n with
  | zero => intro a s _ _ h; omega
  | succ n ih =>
    intro a s h0 h1 h2
    unfold fX3_mostLoad_L4
    by_cases c : s < 6
    · rw [iT c, rd_e h0 (by omega), ck_e (by omega) (by omega), ih _ _ (by omega) (by omega) (by omega), show (6 - s).toNat = (6 - (s + 1)).toNat + 1 by omega]; rfl
    · rw [iF c, show (6 - s).toNat = 0 by omega]; rfl
theorem cc_mostLoad : fX3_mostLoad σ = some (gr (σ 36)) := by
  unfold fX3_mostLoad; rw [cc_most fu 0 0 (by omega) (by omega) (by rw [fu_i]; omega)]; rfl
theorem rr_great (n : Nat) : ∀ (a s : Int), 0 ≤ s → s ≤ 6 → 6 - s < (n : Int) → fX12_greatest_L4 n a s τ = some (grF (τ 37) (6 - s).toNat a s) := by
  induction n with
  | zero => intro a s _ _ h; omega
  | succ n ih =>
    intro a s h0 h1 h2
    unfold fX12_greatest_L4 fX12_greatest_L4P30
    by_cases c : s < 6
    · rw [iT c, rd_e h0 (by omega), show (6 - s).toNat = (6 - (s + 1)).toNat + 1 by omega]
      show _ = some (grF (τ 37) (6 - (s + 1)).toNat (mxI a (τ 37 s)) (s + 1))
      by_cases e : τ 37 s ≤ a
      · rw [iT e, ck_e (by omega) (by omega), ih _ _ (by omega) (by omega) (by omega), show mxI a (τ 37 s) = a by unfold mxI; rw [iF (by omega)]]
      · rw [iF e, rd_e h0 (by omega), ck_e (by omega) (by omega), ih _ _ (by omega) (by omega) (by omega), show mxI a (τ 37 s) = τ 37 s by unfold mxI; rw [iT (by omega)]]
    · rw [iF c, show (6 - s).toNat = 0 by omega]; rfl
theorem rr_greatest : fX12_greatest τ = some (gr (τ 37)) := by
  unfold fX12_greatest; rw [rr_great fu 0 0 (by omega) (by omega) (by rw [fu_i]; omega)]; rfl
abbrev Dy (σ τ : Sg) (V : Vw) (i : Int) : Prop := (∀ s, 0 ≤ s → s < 6 → σ 36 s = τ 37 s ∧ 0 ≤ τ 37 s ∧ τ 37 s ≤ 120) ∧ (∀ s, 0 ≤ s → s < 6 → msk (σ 37 s) (fun q => (q : Int) < i ∧ τ 35 q = s)) ∧ (∀ j, 0 ≤ j → j < i → σ 38 j = τ 35 j ∧ isB V (τ 35 j))
theorem Dy.ld {σ τ : Sg} {V : Vw} {i : Int} (h : Dy σ τ V i) : ∀ s, 0 ≤ s → s < 6 → σ 36 s = τ 37 s ∧ 0 ≤ τ 37 s ∧ τ 37 s ≤ 120 := h.1
theorem Dy.gt {σ τ : Sg} {V : Vw} {i : Int} (h : Dy σ τ V i) : ∀ s, 0 ≤ s → s < 6 → msk (σ 37 s) (fun q => (q : Int) < i ∧ τ 35 q = s) := h.2.1
theorem Dy.ch {σ τ : Sg} {V : Vw} {i : Int} (h : Dy σ τ V i) : ∀ j, 0 ≤ j → j < i → σ 38 j = τ 35 j ∧ isB V (τ 35 j) := h.2.2
theorem Dy.mk {σ τ : Sg} {V : Vw} {i : Int} (ld : ∀ s, 0 ≤ s → s < 6 → σ 36 s = τ 37 s ∧ 0 ≤ τ 37 s ∧ τ 37 s ≤ 120) (gt : ∀ s, 0 ≤ s → s < 6 → msk (σ 37 s) (fun q => (q : Int) < i ∧ τ 35 q = s)) (ch : ∀ j, 0 ≤ j → j < i → σ 38 j = τ 35 j ∧ isB V (τ 35 j)) : Dy σ τ V i := ⟨ld, gt, ch⟩
def Bs (σ τ : Sg) (V : Vw) (m : Int) : Prop := (τ 0 48 = -1 ∧ σ 32 11 = 121) ∨ ((0 ≤ τ 0 48 ∧ τ 0 48 ≤ 120) ∧ σ 32 11 = τ 0 48 ∧ ∀ j, 0 ≤ j → j < m → σ 39 j = τ 36 j ∧ isB V (τ 36 j))
abbrev LayEnv (σ τ : Sg) (V : Vw) (g m x : Int) (O : Int → Int) : Prop := (RelN σ V) ∧ (vw τ = V) ∧ (LayC σ V g m x O) ∧ (LayR τ V g m x O) ∧ (0 ≤ m ∧ m ≤ 8) ∧ (∀ j, 0 ≤ j → j < m → 0 ≤ O j ∧ O j < V.2.2.2.2.2.1)
theorem LayEnv.r {σ τ : Sg} {V : Vw} {g m x : Int} {O : Int → Int} (h : LayEnv σ τ V g m x O) : RelN σ V := h.1
theorem LayEnv.w {σ τ : Sg} {V : Vw} {g m x : Int} {O : Int → Int} (h : LayEnv σ τ V g m x O) : vw τ = V := h.2.1
theorem LayEnv.c {σ τ : Sg} {V : Vw} {g m x : Int} {O : Int → Int} (h : LayEnv σ τ V g m x O) : LayC σ V g m x O := h.2.2.1
theorem LayEnv.l {σ τ : Sg} {V : Vw} {g m x : Int} {O : Int → Int} (h : LayEnv σ τ V g m x O) : LayR τ V g m x O := h.2.2.2.1
theorem LayEnv.m8 {σ τ : Sg} {V : Vw} {g m x : Int} {O : Int → Int} (h : LayEnv σ τ V g m x O) : 0 ≤ m ∧ m ≤ 8 := h.2.2.2.2.1
theorem LayEnv.ho {σ τ : Sg} {V : Vw} {g m x : Int} {O : Int → Int} (h : LayEnv σ τ V g m x O) : ∀ j, 0 ≤ j → j < m → 0 ≤ O j ∧ O j < V.2.2.2.2.2.1 := h.2.2.2.2.2
theorem LayEnv.mk {σ τ : Sg} {V : Vw} {g m x : Int} {O : Int → Int} (r : RelN σ V) (w : vw τ = V) (c : LayC σ V g m x O) (l : LayR τ V g m x O) (m8 : 0 ≤ m ∧ m ≤ 8) (ho : ∀ j, 0 ≤ j → j < m → 0 ≤ O j ∧ O j < V.2.2.2.2.2.1) : LayEnv σ τ V g m x O := ⟨r, w, c, l, m8, ho⟩
theorem LayEnv.congr {σ' τ' : Sg} {g m x : Int} {O : Int → Int} (E : LayEnv σ τ V g m x O) (h1 : ∀ j, j ≠ 32 → ¬ (36 ≤ j ∧ j ≤ 39) → σ' j = σ j) (h2 : ∀ p, p ≠ 11 → σ' 32 p = σ 32 p) (h3 : ∀ j, j ≠ 0 → ¬ (35 ≤ j ∧ j ≤ 37) → τ' j = τ j) (h4 : ∀ p, p ≠ 48 → τ' 0 p = τ 0 p) : LayEnv σ' τ' V g m x O := by
  refine ⟨RelN_congr E.r (fun j hj => h1 j (ne_of_mem hj (by decide)) (by simp only [List.mem_cons, List.not_mem_nil, or_false] at hj; omega)), ?_, ⟨?_, ?_, ?_, ?_, ?_⟩, ⟨?_, ?_, ?_, ?_⟩, E.m8, E.ho⟩
  · rw [← E.w]; exact vw_congr (fun j hj => h3 j (ne_of_mem hj (by decide)) (by simp only [List.mem_cons, List.not_mem_nil, or_false] at hj; omega)) (h4 _ (by decide)) (h4 _ (by decide)) (h4 _ (by decide)) (h4 _ (by decide))
  · rw [h2 9 (by decide)]; exact E.c.hg
  · rw [h2 10 (by decide)]; exact E.c.hm
  · rw [h1 33 (by decide) (by decide)]; exact E.c.ho
  · rw [h1 34 (by decide) (by decide)]; exact E.c.hf
  · rw [h1 35 (by decide) (by decide)]; exact E.c.hk
  · rw [h4 31 (by decide)]; exact E.l.hg
  · rw [h4 47 (by decide)]; exact E.l.hm
  · rw [h3 34 (by decide) (by decide)]; exact E.l.ho
  · rw [h3 38 (by decide) (by decide)]; exact E.l.hf
def mayV (V : Vw) (τ : Sg) (g x : Int) (O : Int → Int) (i s : Int) : Prop := fitV V g (O i) s x ∧ τ 37 s < V.2.1.2.2.2.2 s ∧ ¬ ∃ o, 0 ≤ o ∧ o < i ∧ (τ 35 o = s ∧ nearV V g (O i) (O o))
theorem cc_may {g m x i s : Int} {O : Int → Int} (E : LayEnv σ τ V g m x O) (D : Dy σ τ V i) (hi : 0 ≤ i ∧ i < m) (hs : 0 ≤ s ∧ s < 6) : fX3_mayChoose i s σ = some (bi (mayV V τ g x O i s)) := by
  have hm := E.m8
  have hl := D.ld s hs.1 hs.2
  have hf := E.c.hf i s hi.1 hi.2 hs.1 hs.2
  have hk := E.c.hk i hi.1 hi.2
  have hg := D.gt s hs.1 hs.2
  unfold fX3_mayChoose
  rw [iF (by omega), iT (by omega), iF (by omega), iT hs.2, ck_e (by omega) (by omega), ck_e (by omega) (by omega), rd_e (by omega) (by omega), show i * 6 + s = 6 * i + s by omega, hf]
  by_cases c1 : fitV V g (O i) s x
  · rw [bi_T c1, iF (by decide), rd_e hs.1 (by omega), cc_channels E.r hs.1 hs.2]; simp only [bnd_e]
    rw [hl.1]
    by_cases c2 : τ 37 s < V.2.1.2.2.2.2 s
    · rw [iT c2, rd_e hi.1 (by omega), rd_e hs.1 (by omega)]
      have key := msk_and hk hg
      by_cases c3 : ∃ o, 0 ≤ o ∧ o < i ∧ (τ 35 o = s ∧ nearV V g (O i) (O o))
      · rw [iF, bi_F (fun y => y.2.2 c3)]
        rw [key]
        intro H
        obtain ⟨o, o0, o1, o2, o3⟩ := c3
        have e : ((o.toNat : Nat) : Int) = o := by omega
        exact H o.toNat (by omega) ⟨⟨by omega, by rw [e]; exact o3⟩, by omega, by rw [e]; exact o2⟩
      · rw [iT, bi_T ⟨c1, c2, c3⟩]
        rw [key]
        rintro j hj ⟨⟨a1, a2⟩, b1, b2⟩
        exact c3 ⟨j, by omega, b1, b2, a2⟩
    · rw [iF c2, bi_F (fun y => c2 y.2.1)]
  · rw [bi_F c1, iT rfl, bi_F (fun y => c1 y.1)]
theorem rr_may {g m x i s : Int} {O : Int → Int} (E : LayEnv σ τ V g m x O) (D : Dy σ τ V i) (hi : 0 ≤ i ∧ i < m) (hs : 0 ≤ s ∧ s < 6) : fX12_mayGet i s τ = some (bi (mayV V τ g x O i s)) := by
  have hm := E.m8
  have hl := D.ld s hs.1 hs.2
  have hf := E.l.hf i s hi.1 hi.2 hs.1 hs.2
  have e10 : τ 10 = V.2.1.2.2.2.2 := by rw [← E.w]
  have hO := E.ho i hi.1 hi.2
  unfold fX12_mayGet
  rw [rd_e hi.1 (by omega), rd_e hs.1 (by omega), rd_e hs.1 (by omega), e10, E.l.ho i hi.1 hi.2]
  by_cases c2 : τ 37 s < V.2.1.2.2.2.2 s
  · rw [iT c2, ck_e (by omega) (by omega), ck_e (by omega) (by omega), rd_e (by omega) (by omega), hf]
    by_cases c1 : fitV V g (O i) s x
    · rw [bi_T c1, iF (by decide)]
      have k2 := srch (L := fun n q => fX12_mayGet_L41 n i s (O i) q τ) (lo := 0) (m := i) (P := fun o => τ 35 o = s ∧ nearV V g (O i) (O o)) (a := some (.inl ())) (b := some (.inr ()))
        (fun n q q0 q1 hp => by
          have hQ := E.ho q q0 (by omega)
          unfold fX12_mayGet_L41
          rw [iT q1, rd_e q0 (by omega), iT hp.1, rd_e q0 (by omega), E.l.ho q q0 (by omega), rr_near E.r E.w hO.1 hO.2 hQ.1 hQ.2, E.l.hg]
          exact iT hp.2)
        (fun n q q0 q1 hp => by
          have hQ := E.ho q q0 (by omega)
          conv => lhs; unfold fX12_mayGet_L41
          unfold fX12_mayGet_L41P87
          rw [iT q1, rd_e q0 (by omega)]
          by_cases b : τ 35 q = s
          · rw [iT b, rd_e q0 (by omega), E.l.ho q q0 (by omega), rr_near E.r E.w hO.1 hO.2 hQ.1 hQ.2, E.l.hg, iF (show ¬ (abI (fireV V (O i) - fireV V (O q)) < g) from fun y => hp ⟨b, y⟩), ck_e (by omega) (by omega)]
          · rw [iF b, ck_e (by omega) (by omega)])
        (fun n q q0 q1 => by unfold fX12_mayGet_L41; rw [iF (by omega)]) fu 0 (by omega) (by rw [fu_i]; omega) fu_pos
      by_cases c3 : ∃ o, 0 ≤ o ∧ o < i ∧ (τ 35 o = s ∧ nearV V g (O i) (O o))
      · rw [k2.1 c3, bi_F (fun y => y.2.2 c3)]; rfl
      · rw [k2.2 c3, bi_T ⟨c1, c2, c3⟩]; rfl
    · rw [bi_F c1, iT rfl, bi_F (fun y => c1 y.1)]
  · rw [iF c2, bi_F (fun y => c2 y.2.1)]
theorem cc_choose {i s : Int} (hi : 0 ≤ i ∧ i < 8) (hs : 0 ≤ s ∧ s < 6) (h : -1000 ≤ σ 36 s ∧ σ 36 s ≤ 1000) : fX3_choose i s σ = some (put (put (put σ 38 i s) 36 s (σ 36 s + 1)) 37 s (bOr (σ 37 s) (bShl 1 i))) := by
  unfold fX3_choose
  rw [iF (by omega), iT hi.2, iF (by omega), iT hs.2, wr_e hi.1 (by omega), rd_e hs.1 (by omega), put_ne (by decide), ck_e (by omega) (by omega), wr_e hs.1 (by omega), rd_e hs.1 (by omega), put_ne (by decide), put_ne (by decide), wr_e hs.1 (by omega)]
theorem cc_unchoose {i s : Int} (hi : 0 ≤ i ∧ i < 8) (hs : 0 ≤ s ∧ s < 6) (h : -1000 ≤ σ 36 s ∧ σ 36 s ≤ 1000) : fX3_unchoose i s σ = some (put (put σ 36 s (σ 36 s - 1)) 37 s (bAnd (σ 37 s) (bXor (bShl 1 i) (-1)))) := by
  unfold fX3_unchoose
  rw [iF (by omega), iT hi.2, iF (by omega), iT hs.2, rd_e hs.1 (by omega), ck_e (by omega) (by omega), wr_e hs.1 (by omega), rd_e hs.1 (by omega), put_ne (by decide), wr_e hs.1 (by omega)]

theorem Dy_choose {i s : Int} (D : Dy σ τ V i) (hi : 0 ≤ i ∧ i < 8) (hs : 0 ≤ s ∧ s < 6) (hl : τ 37 s < 120) (hb : isB V s) : Dy (put (put (put σ 38 i s) 36 s (σ 36 s + 1)) 37 s (bOr (σ 37 s) (bShl 1 i))) (put (put τ 35 i s) 37 s (τ 37 s + 1)) V (i + 1) := by
  refine Dy.mk ?_ ?_ ?_
  · intro t t0 t1
    have := D.ld t t0 t1
    rw [put_ne (by decide), put_at, put_at, put_ne (by decide)]
    by_cases e : t = s
    · rw [iT e, iT e]; rw [e] at this; omega
    · rw [iF e, iF e]; exact this
  · intro t t0 t1
    have h := D.gt t t0 t1
    rw [put_at, put_ne (show (37 : Nat) ≠ 36 by decide), put_ne (show (37 : Nat) ≠ 38 by decide), put_ne (show (35 : Nat) ≠ 37 by decide)]
    have ei : ((i.toNat : Nat) : Int) = i := by omega
    by_cases e : t = s
    · rw [iT e]
      rw [e] at h
      have h2 := msk_or h (i := i.toNat) (by omega)
      rw [ei] at h2
      refine ⟨h2.1, fun q hq => ?_⟩
      rw [h2.2 q hq]
      constructor
      · rintro (⟨y1, y2⟩ | y)
        · exact ⟨by omega, by rw [put_F (by omega), e]; exact y2⟩
        · exact ⟨by omega, by rw [put_T (by omega), e]⟩
      · rintro ⟨y1, y2⟩
        by_cases e2 : q = i.toNat
        · exact .inr e2
        · left; rw [put_F (by omega)] at y2; exact ⟨by omega, by rw [← e]; exact y2⟩
    · rw [iF e]
      refine ⟨h.1, fun q hq => ?_⟩
      rw [h.2 q hq]
      constructor
      · rintro ⟨y1, y2⟩; exact ⟨by omega, by rw [put_F (by omega)]; exact y2⟩
      · rintro ⟨y1, y2⟩
        by_cases e2 : (q : Int) = i
        · rw [put_T e2] at y2; exact absurd y2.symm e
        · rw [put_F e2] at y2; exact ⟨by omega, y2⟩
  · intro j j0 j1
    rw [put_ne (by decide), put_ne (by decide), put_at, put_ne (by decide), put_at]
    by_cases e : j = i
    · rw [iT e, iT e]; exact ⟨rfl, hb⟩
    · rw [iF e, iF e]; exact D.ch j j0 (by omega)
abbrev Res (σ τ σ' τ' : Sg) (V : Vw) (m i : Int) : Prop := (∀ j, j ≠ 32 → ¬ (36 ≤ j ∧ j ≤ 39) → σ' j = σ j) ∧ (∀ p, p ≠ 11 → σ' 32 p = σ 32 p) ∧ (∀ j, j ≠ 0 → ¬ (35 ≤ j ∧ j ≤ 37) → τ' j = τ j) ∧ (∀ p, p ≠ 48 → τ' 0 p = τ 0 p) ∧ (Bs σ' τ' V m) ∧ (∀ s, 0 ≤ s → s < 6 → σ' 36 s = σ 36 s ∧ σ' 37 s = σ 37 s ∧ τ' 37 s = τ 37 s) ∧ (∀ j, j < i → σ' 38 j = σ 38 j ∧ τ' 35 j = τ 35 j)
theorem Res.f1 {σ τ σ' τ' : Sg} {V : Vw} {m i : Int} (h : Res σ τ σ' τ' V m i) : ∀ j, j ≠ 32 → ¬ (36 ≤ j ∧ j ≤ 39) → σ' j = σ j := h.1
theorem Res.f2 {σ τ σ' τ' : Sg} {V : Vw} {m i : Int} (h : Res σ τ σ' τ' V m i) : ∀ p, p ≠ 11 → σ' 32 p = σ 32 p := h.2.1
theorem Res.f3 {σ τ σ' τ' : Sg} {V : Vw} {m i : Int} (h : Res σ τ σ' τ' V m i) : ∀ j, j ≠ 0 → ¬ (35 ≤ j ∧ j ≤ 37) → τ' j = τ j := h.2.2.1
theorem Res.f4 {σ τ σ' τ' : Sg} {V : Vw} {m i : Int} (h : Res σ τ σ' τ' V m i) : ∀ p, p ≠ 48 → τ' 0 p = τ 0 p := h.2.2.2.1
theorem Res.b {σ τ σ' τ' : Sg} {V : Vw} {m i : Int} (h : Res σ τ σ' τ' V m i) : Bs σ' τ' V m := h.2.2.2.2.1
theorem Res.l {σ τ σ' τ' : Sg} {V : Vw} {m i : Int} (h : Res σ τ σ' τ' V m i) : ∀ s, 0 ≤ s → s < 6 → σ' 36 s = σ 36 s ∧ σ' 37 s = σ 37 s ∧ τ' 37 s = τ 37 s := h.2.2.2.2.2.1
theorem Res.g {σ τ σ' τ' : Sg} {V : Vw} {m i : Int} (h : Res σ τ σ' τ' V m i) : ∀ j, j < i → σ' 38 j = σ 38 j ∧ τ' 35 j = τ 35 j := h.2.2.2.2.2.2
theorem Res.mk {σ τ σ' τ' : Sg} {V : Vw} {m i : Int} (f1 : ∀ j, j ≠ 32 → ¬ (36 ≤ j ∧ j ≤ 39) → σ' j = σ j) (f2 : ∀ p, p ≠ 11 → σ' 32 p = σ 32 p) (f3 : ∀ j, j ≠ 0 → ¬ (35 ≤ j ∧ j ≤ 37) → τ' j = τ j) (f4 : ∀ p, p ≠ 48 → τ' 0 p = τ 0 p) (b : Bs σ' τ' V m) (l : ∀ s, 0 ≤ s → s < 6 → σ' 36 s = σ 36 s ∧ σ' 37 s = σ 37 s ∧ τ' 37 s = τ 37 s) (g : ∀ j, j < i → σ' 38 j = σ 38 j ∧ τ' 35 j = τ 35 j) : Res σ τ σ' τ' V m i := ⟨f1, f2, f3, f4, b, l, g⟩
theorem Res.dy {σ' τ' : Sg} {m i : Int} (H : Res σ τ σ' τ' V m i) (D : Dy σ τ V i) : Dy σ' τ' V i := by
  refine ⟨fun s s0 s1 => ?_, fun s s0 s1 => ?_, fun j j0 j1 => ?_⟩
  · obtain ⟨a, b, c⟩ := H.l s s0 s1; rw [a, c]; exact D.ld s s0 s1
  · obtain ⟨a, b, c⟩ := H.l s s0 s1; rw [b]
    have h := D.gt s s0 s1
    refine ⟨h.1, fun q hq => ?_⟩
    rw [h.2 q hq]
    constructor
    · rintro ⟨y1, y2⟩; exact ⟨y1, by rw [(H.g q y1).2]; exact y2⟩
    · rintro ⟨y1, y2⟩; exact ⟨y1, by rw [(H.g q y1).2] at y2; exact y2⟩
  · obtain ⟨a, b⟩ := H.g j j1; rw [a, b]; exact D.ch j j0 j1
theorem lay_search {g m x : Int} {O : Int → Int} : ∀ (d : Nat) (i : Int) (σ τ : Sg), LayEnv σ τ V g m x O → Dy σ τ V i → Bs σ τ V m → 0 ≤ i → i ≤ m → m - i < (d : Int) →
    ∃ σ' τ', fX3_search d i (gr (τ 37)) σ = some σ' ∧ fX12_lays d i τ = some τ' ∧ Res σ τ σ' τ' V m i := by
  intro d
  induction d with
  | zero => intro i σ τ _ _ _ _ _ h; omega
  | succ d ihd =>
    intro i σ τ E D B h0 h1 h2
    have hm := E.m8
    have hg := gr_e (τ 37)
    have hg120 : gr (τ 37) ≤ 120 := by
      rcases hg.2.2 with y | ⟨t, t1, t2⟩
      · omega
      · have := (D.ld t t1.1 t1.2).2.2; omega
    
    have go : ∃ σ' τ', (if i < (σ 32 10) then (if i < 8 then (fX3_search_L46 (fX3_search d) fu i (gr (τ 37)) 0 σ).bind fun q29 => some q29 else fX3_search_P23 (fX3_search d) (gr (τ 37)) σ) else fX3_search_P23 (fX3_search d) (gr (τ 37)) σ) = some σ' ∧ fX12_lays_P19 (fX12_lays d) i τ = some τ' ∧ Res σ τ σ' τ' V m i := by
      by_cases hi : i < m
      · 
        have loop : ∀ (n : Nat) (s : Int) (σ2 τ2 : Sg), Res σ τ σ2 τ2 V m i → 0 ≤ s → s ≤ 6 → 6 - s < (n : Int) → ∃ σ' τ', fX3_search_L46 (fX3_search d) n i (gr (τ 37)) s σ2 = some σ' ∧ fX12_lays_L63 (fX12_lays d) n i s τ2 = some τ' ∧ Res σ τ σ' τ' V m i := by
          intro n
          induction n with
          | zero => intro s σ2 τ2 _ _ _ h; omega
          | succ n ihn =>
            intro s σ2 τ2 H s0 s1 s2
            unfold fX3_search_L46 fX12_lays_L63
            by_cases c : s < 6
            · have E2 := E.congr H.f1 H.f2 H.f3 H.f4
              have D2 := H.dy D
              rw [iT c, iT c, cc_may E2 D2 ⟨h0, hi⟩ ⟨s0, c⟩, rr_may E2 D2 ⟨h0, hi⟩ ⟨s0, c⟩]; simp only [bnd_e]
              unfold fX3_search_L46P89 fX12_lays_L63P115
              by_cases my : mayV V τ2 g x O i s
              · rw [bi_T my, iF (by decide), iF (by decide)]
                have hl := D2.ld s s0 c
                have hch := E2.r.b s s0 c
                have hl40 := my.2.1
                rw [cc_choose (by omega) ⟨s0, c⟩ (by omega)]; simp only [bnd_e]
                rw [ck_e (by omega) (by omega)]
                have lo : fX3_loadOf s (put (put (put σ2 38 i s) 36 s (σ2 36 s + 1)) 37 s (bOr (σ2 37 s) (bShl 1 i))) = some (τ2 37 s + 1) := by
                  unfold fX3_loadOf
                  rw [iF (by omega), iT c, rd_e s0 (by omega), put_ne (by decide), put_T rfl, hl.1]
                rw [lo]; simp only [bnd_e]
                rw [wr_e h0 (by omega), rd_e s0 (by omega), put_ne (by decide), ck_e (by omega) (by omega), wr_e s0 (by omega), ck_e (by omega) (by omega)]
                have D3 := Dy_choose D2 (by omega) ⟨s0, c⟩ (by omega) my.1.1.1
                have gm : mxI (gr (τ 37)) (τ2 37 s + 1) = gr ((put (put τ2 35 i s) 37 s (τ2 37 s + 1)) 37) := by
                  rw [gr_cong (f := τ 37) (g := τ2 37) (fun t t0 t1 => ((H.l t t0 t1).2.2).symm)]
                  rw [gr_inc (f := τ2 37) (g := (put (put τ2 35 i s) 37 s (τ2 37 s + 1)) 37) (s := s) ⟨s0, c⟩ hl.2.1 (by rw [put_T rfl]) (fun t t0 t1 te => by rw [put_F te, put_ne (by decide)]), put_T rfl]
                rw [gm]
                have E3 : LayEnv (put (put (put σ2 38 i s) 36 s (σ2 36 s + 1)) 37 s (bOr (σ2 37 s) (bShl 1 i))) (put (put τ2 35 i s) 37 s (τ2 37 s + 1)) V g m x O := E2.congr (fun j j1 j2 => by rw [put_ne (by omega), put_ne (by omega), put_ne (by omega)]) (fun p _ => by rw [put_ne (by decide), put_ne (by decide), put_ne (by decide)]) (fun j j1 j2 => by rw [put_ne (by omega), put_ne (by omega)]) (fun p _ => by rw [put_ne (by decide), put_ne (by decide)])
                have B3 : Bs (put (put (put σ2 38 i s) 36 s (σ2 36 s + 1)) 37 s (bOr (σ2 37 s) (bShl 1 i))) (put (put τ2 35 i s) 37 s (τ2 37 s + 1)) V m := by
                  have := H.b
                  unfold Bs at this ⊢
                  simp (disch := decide) only [put_ne]
                  exact this
                obtain ⟨σ3, τ3, a1, a2, H3⟩ := ihd (i + 1) _ _ E3 D3 B3 (by omega) (by omega) (by omega)
                rw [a1, a2]; simp only [bnd_e]
                obtain ⟨l1, l2, l3⟩ := H3.l s s0 c
                rw [put_ne (show (36 : Nat) ≠ 37 by decide), put_T rfl] at l1
                rw [put_T rfl] at l2 l3
                have e36 : σ3 36 s = τ2 37 s + 1 := by rw [l1, hl.1]
                rw [cc_unchoose (by omega) ⟨s0, c⟩ (by omega)]; simp only [bnd_e]
                rw [ck_e (by omega) (by omega), rd_e s0 (by omega), l3, ck_e (by omega) (by omega), wr_e s0 (by omega), ck_e (by omega) (by omega)]
                refine ihn (s + 1) _ _ ?_ (by omega) (by omega) (by omega)
                have gt := D2.gt s s0 c
                have ei : ((i.toNat : Nat) : Int) = i := by omega
                have clr := msk_clr gt (i := i.toNat) (by omega) (by omega)
                rw [ei] at clr
                refine ⟨?_, ?_, ?_, ?_, ?_, ?_, ?_⟩
                · intro j j1 j2; rw [put_ne (by omega), put_ne (by omega), H3.f1 j j1 j2, put_ne (by omega), put_ne (by omega), put_ne (by omega), H.f1 j j1 j2]
                · intro p hp; rw [put_ne (by decide), put_ne (by decide), H3.f2 p hp, put_ne (by decide), put_ne (by decide), put_ne (by decide), H.f2 p hp]
                · intro j j1 j2; rw [put_ne (by omega), H3.f3 j j1 j2, put_ne (by omega), put_ne (by omega), H.f3 j j1 j2]
                · intro p hp; rw [put_ne (by decide), H3.f4 p hp, put_ne (by decide), put_ne (by decide), H.f4 p hp]
                · have := H3.b
                  unfold Bs at this ⊢
                  simp (disch := decide) only [put_ne]
                  exact this
                · intro t t0 t1
                  obtain ⟨k1, k2, k3⟩ := H.l t t0 t1
                  obtain ⟨n1, n2, n3⟩ := H3.l t t0 t1
                  rw [put_ne (show (36 : Nat) ≠ 37 by decide)] at n1
                  rw [put_ne (show (36 : Nat) ≠ 37 by decide)]
                  by_cases e : t = s
                  · subst e
                    rw [put_T rfl, put_T rfl, put_T rfl, e36, l2, clr]
                    exact ⟨by omega, k2, by omega⟩
                  · rw [put_F e, put_F e, put_ne (by decide), put_F e]
                    rw [put_F e, put_ne (by decide)] at n1 n3
                    rw [put_F e, put_ne (by decide), put_ne (by decide)] at n2
                    exact ⟨by rw [n1]; exact k1, by rw [n2]; exact k2, by rw [n3]; exact k3⟩
                · intro j hj
                  obtain ⟨k1, k2⟩ := H.g j hj
                  obtain ⟨n1, n2⟩ := H3.g j (by omega)
                  rw [put_ne (by decide), put_ne (by decide), put_F (by omega)] at n1
                  rw [put_ne (by decide), put_F (by omega)] at n2
                  rw [put_ne (by decide), put_ne (by decide), put_ne (by decide), n1, n2]
                  exact ⟨k1, k2⟩
              · rw [bi_F my, iT rfl, iT rfl, ck_e (by omega) (by omega), ck_e (by omega) (by omega)]
                exact ihn (s + 1) σ2 τ2 H (by omega) (by omega) (by omega)
            · rw [iF c, iF c]; exact ⟨σ2, τ2, rfl, rfl, H⟩
        obtain ⟨σ', τ', a1, a2, a3⟩ := loop fu 0 σ τ ⟨fun _ _ _ => rfl, fun _ _ => rfl, fun _ _ _ => rfl, fun _ _ => rfl, B, fun _ _ _ => ⟨rfl, rfl, rfl⟩, fun _ _ => ⟨rfl, rfl⟩⟩ (by omega) (by omega) (by rw [fu_i]; omega)
        refine ⟨σ', τ', ?_, ?_, a3⟩
        · rw [E.c.hm, iT hi, iT (by omega), a1]; rfl
        · unfold fX12_lays_P19; rw [E.l.hm, iF (by omega), a2]; rfl
      · have him : i = m := by omega
        
        have cpL : ∀ (n : Nat) (k : Int) (τ2 : Sg), (∀ j, j ≠ 36 → τ2 j = (put τ 0 48 (gr (τ 37))) j) → 0 ≤ k → i - k < (n : Int) → 0 < n → ∃ τ', fX12_lays_L37 (fX12_lays d) n i k τ2 = some τ' ∧ (∀ j, j ≠ 36 → τ' j = (put τ 0 48 (gr (τ 37))) j) ∧ (∀ j, k ≤ j → j < i → τ' 36 j = τ 35 j) ∧ (∀ j, j < k → τ' 36 j = τ2 36 j) := by
          intro n
          induction n with
          | zero => intro k τ2 _ _ _ h; omega
          | succ n ihn =>
            intro k τ2 F k0 k1 _
            unfold fX12_lays_L37
            by_cases c : k < i
            · rw [iT c, rd_e k0 (by omega), F 35 (by decide), put_ne (by decide), wr_e k0 (by omega), ck_e (by omega) (by omega)]
              obtain ⟨τ', a1, a2, a3, a4⟩ := ihn (k + 1) (put τ2 36 k (τ 35 k)) (fun j hj => by rw [put_ne hj, F j hj]) (by omega) (by omega) (by omega)
              refine ⟨τ', a1, a2, fun j j0 j1 => ?_, fun j hj => by rw [a4 j (by omega), put_F (by omega)]⟩
              by_cases e : j = k
              · rw [e, a4 k (by omega), put_T rfl]
              · exact a3 j (by omega) j1
            · rw [iF c]; exact ⟨τ2, rfl, F, fun j j0 j1 => by omega, fun _ _ => rfl⟩
        obtain ⟨τ', a1, a2, a3, -⟩ := cpL fu 0 (put τ 0 48 (gr (τ 37))) (fun _ _ => rfl) (by omega) (by rw [fu_i]; omega) fu_pos
        refine ⟨copA (put σ 32 11 (gr (τ 37))) 38 39 0 0 8, τ', ?_, ?_, ⟨?_, ?_, ?_, ?_, ?_, ?_, ?_⟩⟩
        · rw [E.c.hm, iF hi]; unfold fX3_search_P23; rw [st1_e, cpy_e (by omega) (by omega) (by omega) (by omega) (by omega)]
        · unfold fX12_lays_P19; rw [E.l.hm, iT him, rr_greatest]; simp only [bnd_e]; rw [st1_e, a1]; rfl
        · intro j j1 j2; rw [copA_ne (by omega), put_ne j1]
        · intro p hp; rw [copA_ne (by decide), put_F hp]
        · intro j j1 j2; rw [a2 j (by omega), put_ne j1]
        · intro p hp; rw [a2 0 (by decide), put_F hp]
        · right
          rw [a2 0 (by decide), put_T rfl, copA_ne (by decide), put_T rfl]
          refine ⟨⟨hg.1, hg120⟩, rfl, fun j j0 j1 => ?_⟩
          have := D.ch j j0 (by omega)
          rw [copA_at, iT (by omega), put_ne (by decide), show (0 : Int) + (j - 0) = j by omega, a3 j j0 (by omega)]; exact this
        · intro s s0 s1; rw [copA_ne (by decide), copA_ne (by decide), put_ne (by decide), put_ne (by decide), a2 37 (by decide), put_ne (by decide)]; exact ⟨rfl, rfl, rfl⟩
        · intro j hj; rw [copA_ne (by decide), put_ne (by decide), a2 35 (by decide), put_ne (by decide)]; exact ⟨rfl, rfl⟩
    unfold fX3_search fX12_lays
    rcases B with ⟨b1, b2⟩ | ⟨b1, b2, b3⟩
    · rw [b1, b2, iT (show gr (τ 37) < 121 by omega), iT (show (-1 : Int) < 0 by decide)]
      exact go
    · rw [b2, iF (show ¬ τ 0 48 < 0 by omega), rr_greatest]; simp only [bnd_e]
      by_cases c : gr (τ 37) < τ 0 48
      · rw [iT c, iT c]; exact go
      · rw [iF c, iF c]
        exact ⟨σ, τ, rfl, rfl, ⟨fun _ _ _ => rfl, fun _ _ => rfl, fun _ _ _ => rfl, fun _ _ => rfl, .inr ⟨b1, b2, b3⟩, fun _ _ _ => ⟨rfl, rfl, rfl⟩, fun _ _ => ⟨rfl, rfl⟩⟩⟩
end

section
set_option linter.unusedVariables false
variable {σ τ : Sg} {V : Vw} {N : Int}
theorem lay_give {g m x : Int} {O : Int → Int} {σ0 τ0 : Sg} (E : LayEnv σ0 τ0 V g m x O) (h36 : ∀ j, 0 ≤ j → j < m → σ0 39 j = τ0 36 j ∧ isB V (τ0 36 j)) : ∀ (n : Nat) (i : Int) (σ τ : Sg), (∀ j, j ≠ 22 → σ j = σ0 j) → (∀ j, j ≠ 15 → τ j = τ0 j) → (∀ c, 0 ≤ c → c < V.2.2.2.2.2.1 → σ 22 c = τ 15 c ∧ (τ 15 c = -1 ∨ isB V (τ 15 c))) → 0 ≤ i → m - i < (n : Int) → 0 < n →
    ∃ σ' τ', fX3_giveBest_L2 n i σ = some σ' ∧ fX12_lay_L59 n i τ = some τ' ∧ (∀ j, j ≠ 22 → σ' j = σ0 j) ∧ (∀ j, j ≠ 15 → τ' j = τ0 j) ∧ (∀ c, 0 ≤ c → c < V.2.2.2.2.2.1 → σ' 22 c = τ' 15 c ∧ (τ' 15 c = -1 ∨ isB V (τ' 15 c))) := by
  have hn := E.r.n
  have hm := E.m8
  intro n
  induction n with
  | zero => intro i σ τ _ _ _ _ h; omega
  | succ n ih =>
    intro i σ τ F G H h0 h1 _
    unfold fX3_giveBest_L2 fX12_lay_L59
    rw [F 32 (by decide), E.c.hm, G 0 (by decide), E.l.hm]
    by_cases c : i < m
    · have hO := E.ho i h0 c
      obtain ⟨b1, b2⟩ := h36 i h0 c
      rw [iT c, iT (by omega), iT c, rd_e h0 (by omega), rd_e h0 (by omega), F 33 (by decide), F 39 (by decide), E.c.ho i h0 c, b1]
      have sb : fX1_setBarge 19 (O i) (τ0 36 i) σ = some (put σ 22 (O i) (τ0 36 i)) := by
        unfold fX1_setBarge
        rw [raw_isCue hO.1 (by rw [F 19 (by decide)]; omega) (by rw [F 19 (by decide)]; omega)]; simp only [bnd_e]
        rw [iF (by decide), wr_e hO.1 (by omega)]
      rw [sb, rd_e h0 (by omega), rd_e h0 (by omega), G 34 (by decide), G 36 (by decide), E.l.ho i h0 c, wr_e hO.1 (by omega)]; simp only [bnd_e]
      rw [ck_e (by omega) (by omega), ck_e (by omega) (by omega)]
      refine ih (i + 1) _ _ (fun j hj => by rw [put_ne hj, F j hj]) (fun j hj => by rw [put_ne hj, G j hj]) ?_ (by omega) (by omega) (by omega)
      intro d d0 d1
      rw [put_at, put_at]
      by_cases e : d = O i
      · rw [iT e, iT e]; exact ⟨rfl, .inr b2⟩
      · rw [iF e, iF e]; exact H d d0 d1
    · rw [iF c, iF c]; exact ⟨σ, τ, rfl, rfl, F, G, H⟩
theorem m_lay (x : Int) : Mt (fX11_lay x) (fX12_lay x) := by
  intro N σ τ R0 hN
  have R := Rel_54 R0
  unfold fX12_lay
  rw [st1_e]
  generalize hτ : put τ 0 54 0 = τ1 at R ⊢
  have t54 : τ1 0 54 = 0 := by rw [← hτ, put_T rfl]
  have v := R.v
  have hn := v.n
  have hgap := R.gap
  unfold fX11_lay
  rw [isIn_b]; simp only [bnd_e]
  by_cases hx : 0 ≤ x ∧ x ≤ 4
  · rw [bi_T hx, iF (show ¬ x < 0 by omega), iT hx.2]; (try simp only [bnd_e, one0, two0, if_false, ↓reduceIte])
    have op : fX1_openOnes 19 σ = some (opN (vw τ1) (vw τ1).2.2.2.2.2.1.toNat) := cc_openT (σ := σ) (t := 19) (m := (vw τ1).2.2.2.2.2.1) hn (f := (vw τ1).2.2.1.2.2.2.2) (fun c c0 c1 => (v.c c c0 c1).1.2.2.1)
    obtain ⟨τ2, a1, a2, a3, a4, a5, a6⟩ := rr_gathers v.toRelN (τ := τ1) rfl
    rw [op, a1]; simp only [bnd_e]
    rw [a4]
    have fr2 : ∀ τ' : Sg, (∀ j, j ≠ 0 → ¬ (34 ≤ j ∧ j ≤ 38) → τ' j = τ1 j) → (∀ p, p ≠ 47 → p ≠ 48 → τ' 0 p = τ1 0 p) → vw τ' = vw τ1 := fun τ' h1 h2 => vw_congr (fun j hj => h1 j (ne_of_mem hj (by decide)) (by simp only [List.mem_cons, List.not_mem_nil, or_false] at hj; omega)) (h2 _ (by decide) (by decide)) (h2 _ (by decide) (by decide)) (h2 _ (by decide) (by decide)) (h2 _ (by decide) (by decide))
    have scr : ∀ σ' τ' : Sg, (∀ j, ¬ (32 ≤ j ∧ j ≤ 39) → σ' j = σ j) → (∀ j, j ≠ 0 → ¬ (34 ≤ j ∧ j ≤ 38) → τ' j = τ1 j) → (∀ p, p ≠ 47 → p ≠ 48 → τ' 0 p = τ1 0 p) → Rel N σ' τ' := fun σ' τ' h1 h2 h3 => Rel_scr R (fun j j1 j2 j3 => h1 j (by omega)) (fun j j1 j2 j3 => h2 j j1 (by omega)) (fun p p1 p2 => h3 p (by omega) (by omega)) (.inl (by rw [h3 54 (by decide) (by decide)]; exact t54))
    by_cases c8 : opN (vw τ1) (vw τ1).2.2.2.2.2.1.toNat ≤ 8
    · rw [iT c8, iT c8, st1_e]
      have hop := opN_rng (vw τ1) (vw τ1).2.2.2.2.2.1.toNat
      obtain ⟨m, hm⟩ : ∃ m, m = opN (vw τ1) (vw τ1).2.2.2.2.2.1.toNat := ⟨_, rfl⟩
      obtain ⟨O, hO⟩ : ∃ O, O = opF (vw τ1) (vw τ1).2.2.2.2.2.1.toNat := ⟨_, rfl⟩
      have hOr : ∀ j, 0 ≤ j → j < m → 0 ≤ O j ∧ O j < (vw τ1).2.2.2.2.2.1 := fun j j0 j1 => by
        have := opF_rng (vw τ1) (vw τ1).2.2.2.2.2.1.toNat j j0 (by omega)
        rw [hO]; omega
      obtain ⟨σ2, b1, b2, b3, b4, b5⟩ := cc_prep v (g := σ 0 9) hx c8
      rw [b1]; simp only [bnd_e]
      have hv3 : vw (put τ2 0 48 (-1)) = vw τ1 := fr2 _ (fun j j0 j1 => by rw [put_ne j0, a2 j j0 (by omega) (by omega)]) (fun p p1 p2 => by rw [put_F p2, a3 p p1])
      obtain ⟨τ3, d1, d2, d3, -⟩ := rr_fitsL v.toRelN hv3 (g := σ 0 9) (m := m) (by rw [put_F (by decide), a3 31 (by decide)]; exact hgap.1.symm) (by rw [put_F (by decide), a4, hm]) (by omega) hx (O := O) (fun j j0 j1 => ⟨by rw [put_ne (by decide), a5 j j0 (by omega), hO], hOr j j0 j1⟩) fu 0 (put τ2 0 48 (-1)) (fun _ _ => rfl) (by omega) (by rw [fu_i]; omega) fu_pos
      have ff : fX12_findFits x (put τ2 0 48 (-1)) = some τ3 := by unfold fX12_findFits; rw [d1]; rfl
      rw [ff]; simp only [bnd_e]
      have e3 : ∀ j, j ≠ 0 → ¬ (34 ≤ j ∧ j ≤ 38) → τ3 j = τ1 j := fun j j0 j1 => by rw [d2 j (by omega), put_ne j0, a2 j j0 (by omega) (by omega)]
      have e30 : ∀ p, p ≠ 47 → p ≠ 48 → τ3 0 p = τ1 0 p := fun p p1 p2 => by rw [d2 0 (by decide), put_F p2, a3 p p1]
      have Ev : LayEnv (put σ2 32 11 121) τ3 (vw τ1) (σ 0 9) m x O := (LayEnv.mk (r := RelN_congr v.toRelN (fun j hj => by rw [put_ne (ne_of_mem hj (by decide)), b2 j (by simp only [List.mem_cons, List.not_mem_nil, or_false] at hj; omega)])) (w := fr2 _ e3 e30) (c := ⟨by rw [put_F (by decide)]; exact b3.hg, by rw [put_F (by decide), hm]; exact b3.hm, by rw [put_ne (by decide), hm, hO]; exact b3.ho, by rw [put_ne (by decide), hm, hO]; exact b3.hf, by rw [put_ne (by decide), hm, hO]; exact b3.hk⟩) (l := ⟨by rw [e30 31 (by decide) (by decide)]; exact hgap.1.symm, by rw [d2 0 (by decide), put_F (by decide), a4, hm], fun j j0 j1 => by rw [d2 34 (by decide), put_ne (by decide), a5 j j0 (by omega), hO], fun t s t0 t1 s0 s1 => d3 t s t0 t1 s0 s1⟩) (m8 := by omega) (ho := hOr))
      have q37 : ∀ s, 0 ≤ s → s < 6 → τ3 37 s = ldN (vw τ1) (vw τ1).2.2.2.2.2.1.toNat s := fun s s0 s1 => by rw [d2 37 (by decide), put_ne (by decide)]; exact a6 s s0 s1
      have D : Dy (put σ2 32 11 121) τ3 (vw τ1) 0 := (Dy.mk (ld := fun s s0 s1 => by
          have := ldN_rng (vw τ1) (vw τ1).2.2.2.2.2.1.toNat s
          rw [put_ne (by decide), b4 s s0 s1, q37 s s0 s1]; omega) (gt := fun s s0 s1 => by
          rw [put_ne (by decide), b5 s s0 s1]
          refine ⟨by omega, fun q hq => ?_⟩
          simp; omega) (ch := fun j j0 j1 => by omega))
      have B : Bs (put σ2 32 11 121) τ3 (vw τ1) m := .inl ⟨by rw [d2 0 (by decide), put_T rfl], put_T rfl⟩
      obtain ⟨σ4, τ4, f1, f2, H⟩ := lay_search 10 0 _ _ Ev D B (by omega) (by omega) (by omega)
      have ml : fX3_mostLoad (put σ2 32 11 121) = some (gr (τ3 37)) := by
        rw [cc_mostLoad, gr_cong (f := (put σ2 32 11 121) 36) (g := τ3 37) (fun s s0 s1 => (D.ld s s0 s1).1)]
      have fb : fX3_findBest σ2 = if σ4 32 11 ≤ 120 then some (1, σ4) else some (0, σ4) := by
        unfold fX3_findBest; rw [st1_e, ml]; simp only [bnd_e]; rw [f1]; simp only [bnd_e]
      rw [fb, f2]; simp only [bnd_e]
      have g3 : ∀ j, ¬ (32 ≤ j ∧ j ≤ 39) → σ4 j = σ j := fun j hj => by rw [H.f1 j (by omega) (by omega), put_ne (by omega), b2 j (by omega)]
      have g4 : ∀ j, j ≠ 0 → ¬ (34 ≤ j ∧ j ≤ 38) → τ4 j = τ1 j := fun j j0 j1 => by rw [H.f3 j j0 (by omega), e3 j j0 j1]
      have g5 : ∀ p, p ≠ 47 → p ≠ 48 → τ4 0 p = τ1 0 p := fun p p1 p2 => by rw [H.f4 p p2, e30 p p1 p2]
      rcases H.b with ⟨z1, z2⟩ | ⟨z1, z2, z3⟩
      · rw [iF (show ¬ σ4 32 11 ≤ 120 by omega), iT (show τ4 0 48 < 0 by omega)]
        exact ⟨_, _, _, rfl, rfl, (scr σ4 τ4 g3 g4 g5).up⟩
      · rw [iT (show σ4 32 11 ≤ 120 by omega), iF (show ¬ τ4 0 48 < 0 by omega)]; simp only [bnd_e]
        rw [iF (by decide)]
        have Ev4 := Ev.congr H.f1 H.f2 H.f3 H.f4
        obtain ⟨σ5, τ5, k1, k2, k3, k4, k5⟩ := lay_give Ev4 z3 fu 0 σ4 τ4 (fun _ _ => rfl) (fun _ _ => rfl) (fun c c0 c1 => by
          rw [g3 22 (by omega), g4 15 (by omega) (by omega)]
          have := v.c c c0 c1
          exact ⟨this.1.2.2.1, this.2.2.1⟩) (by omega) (by rw [fu_i]; omega) fu_pos
        have gb : fX3_giveBest σ4 = some σ5 := by unfold fX3_giveBest; rw [k1]; rfl
        rw [gb, k2]; simp only [bnd_e]
        have o1 : σ5 32 11 = τ4 0 48 := by rw [k3 32 (by decide)]; exact z2
        have o2 : τ5 0 48 = τ4 0 48 := by rw [k4 0 (by decide)]
        refine ⟨_, _, _, rfl, by rw [o1, o2], ?_⟩
        have R4 := scr σ4 τ4 g3 g4 g5
        have v4 := R4.v
        have hv4 : vw τ4 = vw τ1 := fr2 _ g4 g5
        have hv5 : vw τ5 = ((τ4 1, τ4 2, τ4 3, τ4 4, τ4 5), (τ4 6, τ4 7, τ4 8, τ4 9, τ4 10), (τ4 11, τ4 12, τ4 13, τ4 14, τ5 15), (τ4 16, τ4 17, τ4 22, τ4 23, τ4 24), (τ4 25, τ4 0 32, τ4 0 33, τ4 0 34, τ4 0 35)) := by
          unfold vw
          simp only [k4 1 (by decide), k4 2 (by decide), k4 3 (by decide), k4 4 (by decide), k4 5 (by decide), k4 6 (by decide), k4 7 (by decide), k4 8 (by decide), k4 9 (by decide), k4 10 (by decide), k4 11 (by decide), k4 12 (by decide), k4 13 (by decide), k4 14 (by decide), k4 16 (by decide), k4 17 (by decide), k4 22 (by decide), k4 23 (by decide), k4 24 (by decide), k4 25 (by decide), k4 0 (by decide)]
        have hn4 : (vw τ4).2.2.2.2.2.1 = (vw τ1).2.2.2.2.2.1 := by rw [hv4]
        have vs : RelV (setA σ4 22 (σ5 22)) ((τ4 1, τ4 2, τ4 3, τ4 4, τ4 5), (τ4 6, τ4 7, τ4 8, τ4 9, τ4 10), (τ4 11, τ4 12, τ4 13, τ4 14, τ5 15), (τ4 16, τ4 17, τ4 22, τ4 23, τ4 24), (τ4 25, τ4 0 32, τ4 0 33, τ4 0 34, τ4 0 35)) := (RelV.all (g := v4.g) (k := v4.k) (b := v4.b) (d := v4.d) (n := v4.n) (c := fun i i0 i1 => by
            obtain ⟨x1, x2, x3, x4⟩ := v4.c i i0 i1
            have i1' : i < (vw τ4).2.2.2.2.2.1 := i1
            obtain ⟨y1, y2⟩ := k5 i i0 (by omega)
            refine ⟨⟨x1.1, x1.2.1, ?_, x1.2.2.2⟩, x2, ?_, x4⟩
            · rw [setA_at]; exact y1
            · show τ5 15 i = -1 ∨ isB (vw τ4) (τ5 15 i)
              rw [hv4]; exact y2) (m := v4.m) (r := v4.r) (h := v4.h) (f := fun k w t a b => v4.f k w t a b))
        refine Rel.up (Rel_view R4 ?_ (fun j hj => k3 j (by omega)) (by rw [k3 0 (by decide)]) (by rw [k3 0 (by decide)]) (fun j j1 j2 => k4 j (by omega)) (by rw [k4 0 (by decide)]) (by rw [k4 0 (by decide)]) (by rw [k4 0 (by decide)]) (.inl (by rw [k4 0 (by decide), g5 54 (by decide) (by decide)]; exact t54)))
        rw [hv5]
        refine RelV_congr vs (fun j hj => ?_)
        by_cases e : j = 22
        · rw [e, setA_at]
        · rw [setA_ne e, k3 j e]
    · rw [iF c8, iF c8]
      exact ⟨_, _, _, rfl, rfl, (scr σ τ2 (fun _ _ => rfl) (fun j j0 j1 => a2 j j0 (by omega) (by omega)) (fun p p1 _ => a3 p p1)).up⟩
  · rw [bi_F hx]
    by_cases h0 : x < 0
    · rw [iT h0]; exact ⟨_, _, _, rfl, rfl, R.up⟩
    · rw [iF h0, iF (show ¬ x ≤ 4 by omega)]; exact ⟨_, _, _, rfl, rfl, R.up⟩
end

