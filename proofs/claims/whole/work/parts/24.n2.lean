section
set_option linter.unusedVariables false
variable {σ τ : Sg} {V : Vw}
def stOK (f : Int → Int) : List Bool → Prop
  | [] => True
  | b :: s => f s.length = b2 b ∧ stOK f s
theorem stOK_put {f : Int → Int} {x v : Int} : ∀ {s : List Bool}, (s.length : Int) ≤ x → stOK f s → stOK (fun n => if n = x then v else f n) s
  | [], _, _ => trivial
  | b :: s, h, ⟨h1, h2⟩ => by
    simp only [List.length_cons] at h
    refine ⟨?_, stOK_put (by omega) h2⟩
    simp only; rw [if_neg (by omega)]; exact h1
theorem rr_ruleL (R : RelN σ V) {c m : Int} (hc : 0 ≤ c) (hc' : c < V.2.2.2.2.2.1) {o p : Int → Int} :
    ∀ (t n : Nat) (τ : Sg) (k i : Int) (s : List Bool), vw τ = V → rulV V.2.2.2.2.1 o p t k i s.length → stOK (τ 39) s → t + 1 ≤ n →
    ∃ τ', fX12_holdsFor_L9 n c m s.length k τ = some τ' ∧ (∀ j, j ≠ 39 → τ' j = τ j) ∧ τ' 39 0 = b2 (evR V c m (t + 1) k s) := by
  intro t
  induction t with
  | zero =>
    intro n τ k i s hV hR hS hn
    obtain ⟨n, rfl⟩ : ∃ m, n = m + 1 := ⟨n - 1, by omega⟩
    unfold rulV at hR
    have e25 : τ 25 = V.2.2.2.2.1 := by rw [← hV]
    obtain ⟨b, s', rfl⟩ := len1 (s := s) (by omega)
    have hs' : s' = [] := by
      cases s' with
      | nil => rfl
      | cons a l => simp at hR; omega
    subst hs'
    refine ⟨τ, ?_, fun _ _ => rfl, ?_⟩
    · unfold fX12_holdsFor_L9; rw [rd_e (by omega) (by omega), e25]; (try simp (disch := omega) only [↓ck_e, ↓rd_e, ↓wr_e, ↓wrB_e, ↓wrZ_e, ↓dv_e, ↓md_e, ↓fdv_e, ↓cpy_e, ↓filB_e, ↓filI_e, ↓filL_e, ↓st1_e, ↓bnd_e, ↓iT, ↓iF, ↓reduceIte, put_ne, put_T, put_F, isIn_T, isIn_F])
    · unfold evR; rw [iT hR.2.1]
      exact hS.1
  | succ t ih =>
    intro n τ k i s hV hR hS hn
    obtain ⟨n, rfl⟩ : ∃ m, n = m + 1 := ⟨n - 1, by omega⟩
    have e25 : τ 25 = V.2.2.2.2.1 := by rw [← hV]
    have e14 : τ 14 = V.2.2.1.2.2.2.1 := by rw [← hV]
    have e15 : τ 15 = V.2.2.1.2.2.2.2 := by rw [← hV]
    have R' : RelN σ (vw τ) := by rw [hV]; exact R
    have hc2 : c < τ 0 32 := by have : τ 0 32 = V.2.2.2.2.2.1 := by rw [← hV]
                                omega
    have hfire : fX12_fire c τ = some (fireV V c) := by
      rw [rr_fire R' hc hc2]; unfold fireV; rw [← hV]
    have hkn : ∀ x, fX12_knownWind x τ = some (knownV V x) := fun x => by rw [rr_known R', hV]
    have hfr := fire_rng R hc hc'
    have hcn := R.n
    unfold rulV at hR
    obtain ⟨hki, ho, hoe, hd, h5, h8, h67⟩ := hR
    obtain ⟨q, hO⟩ : ∃ o, o = V.2.2.2.2.1 k := ⟨_, rfl⟩
    rw [← hO] at ho hoe h5 h8 h67
    have ev1 : ∀ s', (q ≤ 5 → s' = atomV V c m q (V.2.2.2.2.1 (k + 1)) :: s) → (5 < q → s' = opV q s) → evR V c m (t + 1 + 1) k s = evR V c m (t + 1) (k + (if q ≤ 5 then 2 else 1)) s' := by
      intro s' a1 a2
      conv => lhs; unfold evR
      rw [← hO, iF (by omega)]
      by_cases h : q ≤ 5
      · rw [iT h, iT h, a1 h]
      · rw [iF h, iF h, a2 (by omega)]
    have fin : ∀ (s' : List Bool) (x : Int) (b : Bool), (q ≤ 5 → s' = atomV V c m q (V.2.2.2.2.1 (k + 1)) :: s) → (5 < q → s' = opV q s) → rulV V.2.2.2.2.1 o p t (k + (if q ≤ 5 then 2 else 1)) (i + 1) s'.length → stOK (fun n => if n = x then b2 b else τ 39 n) s' → fX12_holdsFor_L9 (n + 1) c m s.length k τ = fX12_holdsFor_L9 n c m s'.length (k + (if q ≤ 5 then 2 else 1)) (put τ 39 x (b2 b)) → ∃ τ', fX12_holdsFor_L9 (n + 1) c m s.length k τ = some τ' ∧ (∀ j, j ≠ 39 → τ' j = τ j) ∧ τ' 39 0 = b2 (evR V c m (t + 1 + 1) k s) := by
      intro s' x b a1 a2 a3 a4 a5
      rw [a5, ev1 s' a1 a2]
      obtain ⟨τ', b1, b2, b3⟩ := ih n (put τ 39 x (b2 b)) _ (i + 1) s' hV a3 a4 (by omega)
      exact ⟨τ', b1, fun j hj => by rw [b2 j hj, put_ne hj], b3⟩
    have hw0 : τ 25 k = q := by rw [e25, hO]
    by_cases ho5 : q ≤ 5
    · obtain ⟨hm, hv, hd8, hR'⟩ := h5 ho5
      obtain ⟨b, hb⟩ : ∃ b, b = atomV V c m q (V.2.2.2.2.1 (k + 1)) := ⟨_, rfl⟩
      refine fin (b :: s) s.length b (fun _ => by rw [hb]) (fun x => by omega) ?_ ?_ ?_
      · rw [iT ho5, List.length_cons]; exact hR'
      · exact ⟨by simp, stOK_put (by omega) hS⟩
      · rw [iT ho5]
        have hv2 : τ 25 (k + 1) = V.2.2.2.2.1 (k + 1) := by rw [e25]
        generalize hv' : V.2.2.2.2.1 (k + 1) = v at hv hm hb hv2
        have : q = 1 ∨ q = 2 ∨ q = 3 ∨ q = 4 ∨ q = 5 := by omega
        have pw : ∀ y, (y = 0 ∨ y = 1) → y = b2 b → fX12_holdsFor_L9P168 (fX12_holdsFor_L9 n) c m s.length k y s.length τ = fX12_holdsFor_L9 n c m (b :: s).length (k + 2) (put τ 39 s.length (b2 b)) := by
          intro y y1 y2
          unfold fX12_holdsFor_L9P168
          rw [wrZ_e (by omega) (by omega) (by omega) (by omega)]; (try simp (disch := omega) only [↓ck_e, ↓rd_e, ↓wr_e, ↓wrB_e, ↓wrZ_e, ↓dv_e, ↓md_e, ↓fdv_e, ↓cpy_e, ↓filB_e, ↓filI_e, ↓filL_e, ↓st1_e, ↓bnd_e, ↓iT, ↓iF, ↓reduceIte, put_ne, put_T, put_F, isIn_T, isIn_F])
          rw [y2]; simp only [List.length_cons]; rfl
        conv => lhs; unfold fX12_holdsFor_L9
        rw [rd_e (by omega) (by omega), hw0, iF (by omega), ck_e (by omega) (by omega), rd_e (by omega) (by omega), rd_e (by omega) (by omega), hw0, iT (by omega), hv2]
        unfold atomV at hb
        rcases this with e | e | e | e | e <;> rw [e] at hb ⊢ <;> (try simp only [↓reduceIte] at hb)
        · rw [iT rfl, hfire]; simp only [bnd_e]; rw [ck_e (by omega) (by omega)]
          by_cases h : fireV V c < 10 * v
          · rw [iT h]; exact pw 0 (by omega) (by rw [hb, decide_eq_false (by omega)]; rfl)
          · rw [iF h]; exact pw 1 (by omega) (by rw [hb, decide_eq_true (by omega)]; rfl)
        · rw [iF (by omega), iT rfl]
          by_cases h : m < v
          · rw [iT h]; exact pw 0 (by omega) (by rw [hb, iF (by decide), decide_eq_false (by omega)]; rfl)
          · rw [iF h]; exact pw 1 (by omega) (by rw [hb, iF (by decide), decide_eq_true (by omega)]; rfl)
        · rw [iF (by omega), iF (by omega), iT rfl, hfire]; simp only [bnd_e]; rw [hkn]; simp only [bnd_e]
          by_cases h : knownV V (fireV V c) = v
          · rw [iT h]; exact pw 1 (by omega) (by rw [hb, iF (by decide), iF (by decide), decide_eq_true h]; rfl)
          · rw [iF h]; exact pw 0 (by omega) (by rw [hb, iF (by decide), iF (by decide), decide_eq_false h]; rfl)
        · rw [iF (by omega), iF (by omega), iF (by omega), iT rfl, rd_e (by omega) (by omega), e15]
          by_cases h : V.2.2.1.2.2.2.2 c = v
          · rw [iT h]; exact pw 1 (by omega) (by rw [hb, iF (by decide), iF (by decide), iF (by decide), decide_eq_true h]; rfl)
          · rw [iF h]; exact pw 0 (by omega) (by rw [hb, iF (by decide), iF (by decide), iF (by decide), decide_eq_false h]; rfl)
        · rw [iF (by omega), iF (by omega), iF (by omega), iF (by omega), rd_e (by omega) (by omega), e14]
          by_cases h : V.2.2.1.2.2.2.1 c = v
          · rw [iT h]; exact pw 1 (by omega) (by rw [hb, iF (by decide), iF (by decide), iF (by decide), iF (by decide), decide_eq_true h]; rfl)
          · rw [iF h]; exact pw 0 (by omega) (by rw [hb, iF (by decide), iF (by decide), iF (by decide), iF (by decide), decide_eq_false h]; rfl)
    · have hin : fX12_holdsFor_L9 (n + 1) c m s.length k τ = if q = 8 then (ck ((s.length : Int) - 1) fun v41 => ck ((s.length : Int) - 1) fun v43 => rd τ 39 9 v43 fun v45 => if v45 = 0 then fX12_holdsFor_L9P213 (fX12_holdsFor_L9 n) c m s.length (k + 1) 1 v41 τ else fX12_holdsFor_L9P213 (fX12_holdsFor_L9 n) c m s.length (k + 1) 0 v41 τ) else (ck ((s.length : Int) + (-1)) fun v13 => ck (v13 - 1) fun v15 => if q = 6 then (ck (v13 - 1) fun v31 => rd τ 39 9 v31 fun v33 => if v33 = 0 then fX12_holdsFor_L9P261 (fX12_holdsFor_L9 n) c m v13 (k + 1) v15 τ else (rd τ 39 9 v13 fun v36 => if v36 = 0 then fX12_holdsFor_L9P261 (fX12_holdsFor_L9 n) c m v13 (k + 1) v15 τ else fX12_holdsFor_L9P292 (fX12_holdsFor_L9 n) c m v13 (k + 1) 1 v15 τ)) else (ck (v13 - 1) fun v17 => rd τ 39 9 v17 fun v19 => if v19 = 0 then (rd τ 39 9 v13 fun v27 => if v27 = 0 then fX12_holdsFor_L9P292 (fX12_holdsFor_L9 n) c m v13 (k + 1) 0 v15 τ else fX12_holdsFor_L9P287 (fX12_holdsFor_L9 n) c m v13 (k + 1) v15 τ) else fX12_holdsFor_L9P287 (fX12_holdsFor_L9 n) c m v13 (k + 1) v15 τ)) := by
        conv => lhs; unfold fX12_holdsFor_L9
        rw [rd_e (by omega) (by omega), hw0, iF (by omega), ck_e (by omega) (by omega), rd_e (by omega) (by omega), rd_e (by omega) (by omega), hw0, iF (by omega), ck_e (by omega) (by omega)]
      by_cases ho8 : q = 8
      · obtain ⟨hd1, hR'⟩ := h8 ho8
        obtain ⟨a, s', rfl⟩ := len1 (s := s) hd1
        have hop : opV q (a :: s') = (!a) :: s' := by
          rw [ho8]; cases s' <;> simp [opV]
        refine fin ((!a) :: s') s'.length (!a) (fun x => by omega) (fun _ => hop.symm) ?_ ?_ ?_
        · rw [iF ho5]; exact hR'
        · exact ⟨by simp, stOK_put (by omega) hS.2⟩
        · rw [hin, iT ho8, iF ho5]
          simp only [List.length_cons] at hd ⊢
          rw [ck_e (by omega) (by omega), ck_e (by omega) (by omega), rd_e (by omega) (by omega), show (((s'.length + 1 : Nat)) : Int) - 1 = s'.length by omega, hS.1]
          unfold fX12_holdsFor_L9P213
          cases a
          · rw [iT (by rfl), wrZ_e (by omega) (by omega) (by omega) (by omega)]; rfl
          · rw [iF (by simp [b2]), wrZ_e (by omega) (by omega) (by omega) (by omega)]; rfl
      · obtain ⟨hd2, hR'⟩ := h67 (by omega)
        obtain ⟨a, b, s', rfl⟩ := len2 (s := s) hd2
        have hSa := hS.1; have hSb := hS.2.1
        simp only [List.length_cons] at hSa hd hR' hd2
        have l1 : (((s'.length + 1 + 1 : Nat)) : Int) + (-1) = ((s'.length + 1 : Nat) : Int) := by omega
        have l2 : (((s'.length + 1 : Nat)) : Int) - 1 = s'.length := by omega
        have hR'' : rulV V.2.2.2.2.1 o p t (k + 1) (i + 1) ((s'.length + 1 : Nat) : Int) := by
          rw [show (((s'.length + 1 : Nat)) : Int) = ((s'.length + 1 + 1 : Nat) : Int) - 1 by omega]; exact hR'
        by_cases ho6 : q = 6
        · refine fin ((b && a) :: s') s'.length (b && a) (fun x => by omega) (fun _ => by rw [ho6]; simp [opV]) ?_ ?_ ?_
          · rw [iF ho5]; exact hR''
          · exact ⟨by simp, stOK_put (by omega) hS.2.2⟩
          · rw [hin, iF ho8, iF ho5]
            simp only [List.length_cons]
            rw [ck_e (by omega) (by omega), l1, ck_e (by omega) (by omega), iT ho6, ck_e (by omega) (by omega), rd_e (by omega) (by omega), l2, hSb]
            unfold fX12_holdsFor_L9P261 fX12_holdsFor_L9P292
            cases b
            · rw [iT (by rfl), wrZ_e (by omega) (by omega) (by omega) (by omega)]; rfl
            · rw [iF (by simp [b2]), rd_e (by omega) (by omega), hSa]
              cases a
              · rw [iT (by rfl), wrZ_e (by omega) (by omega) (by omega) (by omega)]; rfl
              · rw [iF (by simp [b2]), wrZ_e (by omega) (by omega) (by omega) (by omega)]; rfl
        · refine fin ((b || a) :: s') s'.length (b || a) (fun x => by omega) (fun _ => by rw [show q = 7 by omega]; simp [opV]) ?_ ?_ ?_
          · rw [iF ho5]; exact hR''
          · exact ⟨by simp, stOK_put (by omega) hS.2.2⟩
          · rw [hin, iF ho8, iF ho5]
            simp only [List.length_cons]
            rw [ck_e (by omega) (by omega), l1, ck_e (by omega) (by omega), iF ho6, ck_e (by omega) (by omega), rd_e (by omega) (by omega), l2, hSb]
            unfold fX12_holdsFor_L9P287 fX12_holdsFor_L9P292
            cases b
            · rw [iT (by rfl), rd_e (by omega) (by omega), hSa]
              cases a
              · rw [iT (by rfl), wrZ_e (by omega) (by omega) (by omega) (by omega)]; rfl
              · rw [iF (by simp [b2]), wrZ_e (by omega) (by omega) (by omega) (by omega)]; rfl
            · rw [iF (by simp [b2]), wrZ_e (by omega) (by omega) (by omega) (by omega)]; rfl
theorem rr_rule (R : RelN σ V) (hV : vw τ = V) {r c m : Int} (hr : 0 ≤ r ∧ r < V.2.2.2.2.2.2.2.1) (hc : 0 ≤ c) (hc' : c < V.2.2.2.2.2.1) : ∃ τ', fX12_holdsFor r c m τ = some (b2 (ruleV V r c m), τ') ∧ (∀ j, j ≠ 39 → τ' j = τ j) := by
  have hm := R.r.1
  obtain ⟨h1, h2⟩ := R.r.2 r hr.1 hr.2
  obtain ⟨τ', e1, e2, e4⟩ := rr_ruleL R hc hc' (m := m) (σ 47 r).toNat fu τ (100 * r) (20 * r) [] hV h2 trivial (by unfold fu; omega)
  have e3 := evR_more V c m _ _ (σ 47 r).toNat 21 (100 * r) (20 * r) [] (by omega) h2
  refine ⟨τ', ?_, e2⟩
  unfold fX12_holdsFor ruleV
  rw [e3]
  (try simp (disch := omega) only [↓ck_e, ↓rd_e, ↓wr_e, ↓wrB_e, ↓wrZ_e, ↓dv_e, ↓md_e, ↓fdv_e, ↓cpy_e, ↓filB_e, ↓filI_e, ↓filL_e, ↓st1_e, ↓bnd_e, ↓iT, ↓iF, ↓reduceIte, put_ne, put_T, put_F, isIn_T, isIn_F])
  rw [show ((([] : List Bool).length : Nat) : Int) = 0 from rfl] at e1
  rw [e1]
  (try simp (disch := omega) only [↓ck_e, ↓rd_e, ↓wr_e, ↓wrB_e, ↓wrZ_e, ↓dv_e, ↓md_e, ↓fdv_e, ↓cpy_e, ↓filB_e, ↓filI_e, ↓filL_e, ↓st1_e, ↓bnd_e, ↓iT, ↓iF, ↓reduceIte, put_ne, put_T, put_F, isIn_T, isIn_F])
  rw [e4]
  unfold bl; rw [iT (b2_rng _)]
theorem rr_any (R : RelN σ V) {c m : Int} (hc : 0 ≤ c) (hc' : c < V.2.2.2.2.2.1) : ∀ (n : Nat) (τ : Sg) (i : Int), vw τ = V → 0 ≤ i → V.2.2.2.2.2.2.2.1 - i < (n : Int) → 0 < n →
    ∃ τ', (∀ j, j ≠ 39 → τ' j = τ j) ∧ fX12_fateOf_L97 n c m i τ = some (@ite _ (∃ r, i ≤ r ∧ r < V.2.2.2.2.2.2.2.1 ∧ ruleV V r c m = true) (Classical.propDecidable _) (.inl τ') (.inr τ')) := by
  have hm := R.r.1
  intro n
  induction n with
  | zero => intro τ i _ _ _ h; omega
  | succ n ih =>
    intro τ i hV h0 h1 h2
    have e34 : τ 0 34 = V.2.2.2.2.2.2.2.1 := by rw [← hV]
    conv => enter [1, τ', 2]; unfold fX12_fateOf_L97
    by_cases c1 : i < V.2.2.2.2.2.2.2.1
    · obtain ⟨τ1, a1, a2⟩ := rr_rule R hV (r := i) (m := m) ⟨h0, c1⟩ hc hc'
      have hV1 : vw τ1 = V := by
        rw [← hV]; unfold vw
        simp only [a2 1 (by decide), a2 2 (by decide), a2 3 (by decide), a2 4 (by decide), a2 5 (by decide), a2 6 (by decide), a2 7 (by decide), a2 8 (by decide), a2 9 (by decide), a2 10 (by decide), a2 11 (by decide), a2 12 (by decide), a2 13 (by decide), a2 14 (by decide), a2 15 (by decide), a2 16 (by decide), a2 17 (by decide), a2 22 (by decide), a2 23 (by decide), a2 24 (by decide), a2 25 (by decide), a2 0 (by decide)]
      rw [iT (by omega), a1]
      cases hb : ruleV V i c m
      · obtain ⟨τ2, b1, b2'⟩ := ih τ1 (i + 1) hV1 (by omega) (by omega) (by omega)
        refine ⟨τ2, fun j hj => by rw [b1 j hj, a2 j hj], ?_⟩
        simp only [bnd_e, b2]
        rw [iT (by decide), ck_e (by omega) (by omega), b2']
        have : (∃ r, i + 1 ≤ r ∧ r < V.2.2.2.2.2.2.2.1 ∧ ruleV V r c m = true) ↔ (∃ r, i ≤ r ∧ r < V.2.2.2.2.2.2.2.1 ∧ ruleV V r c m = true) := by
          constructor
          · rintro ⟨r, x1, x2, x3⟩; exact ⟨r, by omega, x2, x3⟩
          · rintro ⟨r, x1, x2, x3⟩
            refine ⟨r, ?_, x2, x3⟩
            by_cases e : r = i
            · rw [e, hb] at x3; cases x3
            · omega
        rw [propext this]
      · refine ⟨τ1, a2, ?_⟩
        simp only [bnd_e, b2]
        rw [iF (by decide), if_pos ⟨i, by omega, c1, hb⟩]
    · refine ⟨τ, fun _ _ => rfl, ?_⟩
      rw [iF (by omega), if_neg (by rintro ⟨r, x1, x2, x3⟩; omega)]
end

section
set_option linter.unusedVariables false
variable {σ τ : Sg} {V : Vw}
theorem vw_congr {τ τ' : Sg} (h : ∀ j ∈ [1, 2, 3, 4, 5, 6, 7, 8, 9, 10, 11, 12, 13, 14, 15, 16, 17, 22, 23, 24, 25], τ' j = τ j) (h1 : τ' 0 32 = τ 0 32) (h2 : τ' 0 33 = τ 0 33) (h3 : τ' 0 34 = τ 0 34) (h4 : τ' 0 35 = τ 0 35) : vw τ' = vw τ := by
  have a2 : ∀ j, j ∈ [1, 2, 3, 4, 5, 6, 7, 8, 9, 10, 11, 12, 13, 14, 15, 16, 17, 22, 23, 24, 25] → τ' j = τ j := h
  unfold vw
  simp only [a2 1 (by decide), a2 2 (by decide), a2 3 (by decide), a2 4 (by decide), a2 5 (by decide), a2 6 (by decide), a2 7 (by decide), a2 8 (by decide), a2 9 (by decide), a2 10 (by decide), a2 11 (by decide), a2 12 (by decide), a2 13 (by decide), a2 14 (by decide), a2 15 (by decide), a2 16 (by decide), a2 17 (by decide), a2 22 (by decide), a2 23 (by decide), a2 24 (by decide), a2 25 (by decide), h1, h2, h3, h4]

def zupd (a : Int → Int) (i v : Int) : Int → Int := fun j => if j = i then v else a j
theorem zupd_T {a : Int → Int} {i v j : Int} (h : j = i) : zupd a i v j = v := if_pos h
theorem zupd_F {a : Int → Int} {i v j : Int} (h : j ≠ i) : zupd a i v j = a j := if_neg h
def insF (f : Int → Int) (c : Int) : Nat → (Int → Int) → (Int → Int)
  | 0, a => zupd a 0 c
  | k + 1, a => if f c < f (a k) then insF f c k (zupd a (k + 1 : Nat) (a k)) else zupd a (k + 1 : Nat) c
def srtF (f : Int → Int) : Nat → (Int → Int)
  | 0 => fun _ => 0
  | n + 1 => insF f n n (srtF f n)
def lineV (V : Vw) : Int → Int := srtF (fireV V) V.2.2.2.2.2.1.toNat

theorem insF_mem (f : Int → Int) (c m : Int) : ∀ (k : Nat) (a : Int → Int) (j : Int), (k : Int) ≤ m → 0 ≤ j → j ≤ m → insF f c k a j = c ∨ ∃ i : Int, ((0 ≤ i ∧ i < k) ∨ (k < i ∧ i ≤ m)) ∧ insF f c k a j = a i
  | 0, a, j, hk, h0, h1 => by
    unfold insF
    by_cases h : j = 0
    · left; exact zupd_T h
    · right; exact ⟨j, by omega, zupd_F h⟩
  | k + 1, a, j, hk, h0, h1 => by
    unfold insF
    by_cases h : f c < f (a k)
    · rw [iT h]
      rcases insF_mem f c m k (zupd a (k + 1 : Nat) (a k)) j (by omega) h0 h1 with x | ⟨i, x1, x2⟩
      · exact .inl x
      · right
        by_cases e : i = (k + 1 : Nat)
        · rw [zupd_T e] at x2; exact ⟨k, by omega, x2⟩
        · rw [zupd_F e] at x2; exact ⟨i, by omega, x2⟩
    · rw [iF h]
      by_cases e : j = (k + 1 : Nat)
      · left; exact zupd_T e
      · right; exact ⟨j, by omega, zupd_F e⟩
theorem insF_sur (f : Int → Int) (c m : Int) : ∀ (k : Nat) (a : Int → Int) (v : Int), (k : Int) ≤ m → (v = c ∨ ∃ i : Int, ((0 ≤ i ∧ i < k) ∨ (k < i ∧ i ≤ m)) ∧ v = a i) → ∃ j : Int, 0 ≤ j ∧ j ≤ m ∧ insF f c k a j = v
  | 0, a, v, hk, h => by
    unfold insF
    rcases h with h | ⟨i, h1, h2⟩
    · exact ⟨0, by omega, by omega, by rw [zupd_T rfl, h]⟩
    · exact ⟨i, by omega, by omega, by rw [zupd_F (by omega), h2]⟩
  | k + 1, a, v, hk, h => by
    unfold insF
    by_cases c1 : f c < f (a k)
    · rw [iT c1]
      refine insF_sur f c m k _ v (by omega) ?_
      rcases h with h | ⟨i, h1, h2⟩
      · exact .inl h
      · right
        by_cases e : i = k
        · exact ⟨(k + 1 : Nat), by omega, by rw [zupd_T rfl, h2, e]⟩
        · exact ⟨i, by omega, by rw [zupd_F (by omega), h2]⟩
    · rw [iF c1]
      rcases h with h | ⟨i, h1, h2⟩
      · exact ⟨(k + 1 : Nat), by omega, by omega, by rw [zupd_T rfl, h]⟩
      · exact ⟨i, by omega, by omega, by rw [zupd_F (by omega), h2]⟩
theorem srtF_rng (f : Int → Int) : ∀ (n : Nat) (j : Int), 0 ≤ j → j < n → 0 ≤ srtF f n j ∧ srtF f n j < n
  | 0, j, h0, h1 => by omega
  | n + 1, j, h0, h1 => by
    unfold srtF
    rcases insF_mem f n n n (srtF f n) j (by omega) h0 (by omega) with h | ⟨i, h2, h3⟩
    · omega
    · have := srtF_rng f n i (by omega) (by omega); omega
theorem srtF_sur (f : Int → Int) : ∀ (n : Nat) (v : Int), 0 ≤ v → v < n → ∃ j : Int, 0 ≤ j ∧ j < n ∧ srtF f n j = v
  | 0, v, h0, h1 => by omega
  | n + 1, v, h0, h1 => by
    unfold srtF
    obtain ⟨j, a1, a2, a3⟩ := insF_sur f n n n (srtF f n) v (by omega) (by
      by_cases h : v = n
      · exact .inl h
      · obtain ⟨i, b1, b2, b3⟩ := srtF_sur f n v h0 (by omega)
        exact .inr ⟨i, by omega, b3.symm⟩)
    exact ⟨j, a1, by omega, a3⟩
theorem cc_ins {f : Int → Int} {c : Int} (hc : 0 ≤ c ∧ c < 120) : ∀ (k n : Nat) (σ : Sg) (a : Int → Int), (k : Int) ≤ c → k + 1 ≤ n → (∀ j : Int, (0 ≤ j ∧ j < k) ∨ (k < j ∧ j ≤ c) → σ 50 j = a j ∧ σ 51 j = f (a j)) →
    ∃ k' σ', fX7_sortByFire_L34 n c (f c) k σ = some (k', σ') ∧ (0 ≤ k' ∧ k' ≤ k) ∧ (∀ j, j ≠ 50 → j ≠ 51 → σ' j = σ j) ∧ ∀ j : Int, 0 ≤ j → j ≤ c → zupd (σ' 50) k' c j = insF f c k a j ∧ zupd (σ' 51) k' (f c) j = f (insF f c k a j) := by
  intro k
  induction k with
  | zero =>
    intro n σ a hk hn H
    obtain ⟨n, rfl⟩ : ∃ m, n = m + 1 := ⟨n - 1, by omega⟩
    refine ⟨0, σ, by unfold fX7_sortByFire_L34; rw [iT (by omega)]; rfl, by omega, fun _ _ _ => rfl, ?_⟩
    intro j h0 h1
    unfold insF
    by_cases h : j = 0
    · rw [zupd_T h, zupd_T h, zupd_T h]; exact ⟨rfl, rfl⟩
    · rw [zupd_F h, zupd_F h, zupd_F h]; exact H j (by omega)
  | succ k ih =>
    intro n σ a hk hn H
    obtain ⟨n, rfl⟩ : ∃ m, n = m + 1 := ⟨n - 1, by omega⟩
    have hk' := H k (by omega)
    unfold fX7_sortByFire_L34
    have e1 : (((k + 1 : Nat)) : Int) - 1 = k := by omega
    have e2 : (((k + 1 : Nat)) : Int) + (-1) = k := by omega
    rw [iF (by omega), e1]
    rw [ck_e (by omega) (by omega), rd_e (by omega) (by omega), hk'.2]
    conv => enter [1, k', 1, σ', 2, 2, 2, j, h0, h1]; unfold insF
    by_cases c1 : f c < f (a k)
    · rw [iF (by omega), e2]
      rw [ck_e (by omega) (by omega), rd_e (by omega) (by omega), hk'.2, wr_e (by omega) (by omega), ck_e (by omega) (by omega), rd_e (by omega) (by omega), put_ne (by decide), hk'.1, wr_e (by omega) (by omega), ck_e (by omega) (by omega)]
      simp only [if_pos c1]
      obtain ⟨k', σ', b1, b2, b3, b4⟩ := ih n (put (put σ 51 (k + 1 : Nat) (f (a k))) 50 (k + 1 : Nat) (a k)) (zupd a (k + 1 : Nat) (a k)) (by omega) (by omega) (by
        intro j hj
        rw [put_at, put_ne (by decide : (51 : Nat) ≠ 50), put_at, put_ne (by decide : (50 : Nat) ≠ 51)]
        by_cases e : j = (k + 1 : Nat)
        · rw [if_pos e, if_pos e, zupd_T e]; exact ⟨rfl, rfl⟩
        · rw [if_neg e, if_neg e, zupd_F e]; exact H j (by omega))
      refine ⟨k', σ', b1, by omega, ?_, b4⟩
      intro j j1 j2; rw [b3 j j1 j2, put_ne j1, put_ne j2]
    · rw [iT (by omega)]
      simp only [if_neg c1]
      refine ⟨(k + 1 : Nat), σ, rfl, by omega, fun _ _ _ => rfl, ?_⟩
      intro j h0 h1
      by_cases e : j = (k + 1 : Nat)
      · rw [zupd_T e, zupd_T e, zupd_T e]; exact ⟨rfl, rfl⟩
      · rw [zupd_F e, zupd_F e, zupd_F e]; exact H j (by omega)
theorem cc_sortL (R0 : RelN σ V) : ∀ (n : Nat) (σ' : Sg) (c : Nat), (∀ j, j ≠ 50 → j ≠ 51 → σ' j = σ j) → (c : Int) ≤ V.2.2.2.2.2.1 → V.2.2.2.2.2.1 - c < (n : Int) → (∀ j : Int, 0 ≤ j → j < c → σ' 50 j = srtF (fireV V) c j ∧ σ' 51 j = fireV V (srtF (fireV V) c j)) →
    ∃ σ2, fX7_sortByFire_L2 n c σ' = some σ2 ∧ (∀ j, j ≠ 50 → j ≠ 51 → σ2 j = σ j) ∧ (∀ j : Int, 0 ≤ j → j < V.2.2.2.2.2.1 → σ2 50 j = lineV V j ∧ σ2 51 j = fireV V (lineV V j)) := by
  have hn := R0.n
  intro n
  induction n with
  | zero => intro σ' c _ _ h; omega
  | succ n ih =>
    intro σ' c hE hc hfu H
    have R : RelN σ' V := RelN_congr R0 (fun j hj => hE j (by intro h; subst h; revert hj; decide) (by intro h; subst h; revert hj; decide))
    have hn' := R.n
    unfold fX7_sortByFire_L2
    by_cases h : (c : Int) < V.2.2.2.2.2.1
    · rw [iT (by omega), iT (by omega), cc_fire R (by omega) h]
      obtain ⟨k', σ1, b1, b2, b3, b4⟩ := cc_ins (f := fireV V) (c := c) (by omega) c fu σ' (srtF (fireV V) c) (by omega) (by unfold fu; omega) (fun j hj => H j (by omega) (by omega))
      simp only [bnd_e]
      have b1' : fX7_sortByFire_L34 fu c (V.2.2.1.2.2.1 c - V.1.2.1 (V.2.2.1.2.2.2.1 c)) c σ' = some (k', σ1) := b1
      rw [b1']
      simp only [bnd_e]
      rw [wr_e (by omega) (by omega), wr_e (by omega) (by omega), ck_e (by omega) (by omega)]
      refine ih _ (c + 1) ?_ (by omega) (by omega) ?_
      · intro j j1 j2; rw [put_ne j1, put_ne j2, b3 j j1 j2, hE j j1 j2]
      · intro j h0 h1
        rw [put_at, put_ne (by decide : (51 : Nat) ≠ 50), put_at, put_ne (by decide : (50 : Nat) ≠ 51)]
        exact b4 j h0 (by omega)
    · rw [iF (by omega)]
      refine ⟨σ', rfl, hE, ?_⟩
      have : c = V.2.2.2.2.2.1.toNat := by omega
      unfold lineV; rw [← this]
      intro j h0 h1; exact H j h0 (by omega)
theorem cc_sort (R : RelN σ V) : ∃ σ2, fX7_sortByFire σ = some σ2 ∧ (∀ j, j ≠ 50 → j ≠ 51 → σ2 j = σ j) ∧ (∀ j : Int, 0 ≤ j → j < V.2.2.2.2.2.1 → σ2 50 j = lineV V j ∧ σ2 51 j = fireV V (lineV V j)) := by
  have hn := R.n
  obtain ⟨σ2, a1, a2, a3⟩ := cc_sortL R fu σ 0 (fun _ _ _ => rfl) (by omega) (by rw [fu_i]; omega) (fun j h0 h1 => by omega)
  refine ⟨σ2, ?_, a2, a3⟩
  unfold fX7_sortByFire
  rw [show ((0 : Nat) : Int) = 0 from rfl] at a1
  rw [a1]; rfl
theorem rr_ins (R : RelN σ V) {c : Int} (hc : 0 ≤ c ∧ c < V.2.2.2.2.2.1) : ∀ (k n : Nat) (τ : Sg) (a : Int → Int), vw τ = V → (k : Int) ≤ c → k + 1 ≤ n → (∀ j : Int, (0 ≤ j ∧ j < k) ∨ (k < j ∧ j ≤ c) → τ 40 j = a j ∧ 0 ≤ a j ∧ a j < V.2.2.2.2.2.1) →
    ∃ k' τ', fX12_plays_L25 n c k τ = some (k', τ') ∧ (0 ≤ k' ∧ k' ≤ k) ∧ (∀ j, j ≠ 40 → τ' j = τ j) ∧ ∀ j : Int, 0 ≤ j → j ≤ c → zupd (τ' 40) k' c j = insF (fireV V) c k a j := by
  have hn := R.n
  intro k
  induction k with
  | zero =>
    intro n τ a hV hk hn H
    obtain ⟨n, rfl⟩ : ∃ m, n = m + 1 := ⟨n - 1, by omega⟩
    refine ⟨0, τ, by unfold fX12_plays_L25; rw [iT (by omega)]; rfl, by omega, fun _ _ => rfl, ?_⟩
    intro j h0 h1
    unfold insF
    by_cases h : j = 0
    · rw [zupd_T h, zupd_T h]
    · rw [zupd_F h, zupd_F h]; exact (H j (by omega)).1
  | succ k ih =>
    intro n τ a hV hk hn H
    obtain ⟨n, rfl⟩ : ∃ m, n = m + 1 := ⟨n - 1, by omega⟩
    have hk' := H k (by omega)
    have R' : RelN σ (vw τ) := by rw [hV]; exact R
    have e32 : τ 0 32 = V.2.2.2.2.2.1 := by rw [← hV]
    have hf : ∀ x, 0 ≤ x → x < V.2.2.2.2.2.1 → fX12_fire x τ = some (fireV V x) := fun x h0 h1 => by
      rw [rr_fire R' h0 (by omega)]; unfold fireV; rw [← hV]
    unfold fX12_plays_L25
    have e1 : (((k + 1 : Nat)) : Int) - 1 = k := by omega
    have e2 : (((k + 1 : Nat)) : Int) + (-1) = k := by omega
    rw [iF (by omega), e1]
    rw [ck_e (by omega) (by omega), rd_e (by omega) (by omega), hk'.1, hf _ hk'.2.1 hk'.2.2]
    simp only [bnd_e]
    rw [hf _ hc.1 hc.2]
    simp only [bnd_e]
    conv => enter [1, k', 1, σ', 2, 2, 2, j, h0, h1]; unfold insF
    by_cases c1 : fireV V c < fireV V (a k)
    · rw [iF (by omega), e2]
      rw [ck_e (by omega) (by omega), rd_e (by omega) (by omega), hk'.1, wr_e (by omega) (by omega), ck_e (by omega) (by omega)]
      simp only [if_pos c1]
      obtain ⟨k', τ', b1, b2, b3, b4⟩ := ih n (put τ 40 (k + 1 : Nat) (a k)) (zupd a (k + 1 : Nat) (a k)) hV (by omega) (by omega) (by
        intro j hj
        rw [put_at]
        by_cases e : j = (k + 1 : Nat)
        · rw [if_pos e, zupd_T e]; exact ⟨rfl, hk'.2⟩
        · rw [if_neg e, zupd_F e]; exact H j (by omega))
      refine ⟨k', τ', b1, by omega, ?_, b4⟩
      intro j j1; rw [b3 j j1, put_ne j1]
    · rw [iT (by omega)]
      simp only [if_neg c1]
      refine ⟨(k + 1 : Nat), τ, rfl, by omega, fun _ _ => rfl, ?_⟩
      intro j h0 h1
      by_cases e : j = (k + 1 : Nat)
      · rw [zupd_T e, zupd_T e]
      · rw [zupd_F e, zupd_F e]; exact (H j (by omega)).1
theorem rr_sortL (R : RelN σ V) {τ0 : Sg} : ∀ (n : Nat) (τ : Sg) (c : Nat), vw τ = V → (∀ j, j ≠ 40 → τ j = τ0 j) → (c : Int) ≤ V.2.2.2.2.2.1 → V.2.2.2.2.2.1 - c < (n : Int) → (∀ j : Int, 0 ≤ j → j < c → τ 40 j = srtF (fireV V) c j) →
    ∃ τ2, fX12_plays_L15 n c τ = some τ2 ∧ (∀ j, j ≠ 40 → τ2 j = τ0 j) ∧ (∀ j : Int, 0 ≤ j → j < V.2.2.2.2.2.1 → τ2 40 j = lineV V j) := by
  have hn := R.n
  intro n
  induction n with
  | zero => intro τ c _ _ _ h; omega
  | succ n ih =>
    intro τ c hV hE hc hfu H
    have e32 : τ 0 32 = V.2.2.2.2.2.1 := by rw [← hV]
    unfold fX12_plays_L15
    by_cases h : (c : Int) < V.2.2.2.2.2.1
    · rw [iT (by omega)]
      obtain ⟨k', τ1, b1, b2, b3, b4⟩ := rr_ins R (c := c) (by omega) c fu τ (srtF (fireV V) c) hV (by omega) (by unfold fu; omega) (fun j hj => ⟨H j (by omega) (by omega), (srtF_rng _ c j (by omega) (by omega)).1, by have := (srtF_rng (fireV V) c j (by omega) (by omega)).2; omega⟩)
      rw [b1]
      simp only [bnd_e]
      rw [wr_e (by omega) (by omega), ck_e (by omega) (by omega)]
      refine ih _ (c + 1) ?_ ?_ (by omega) (by omega) ?_
      · rw [← hV]
        exact vw_congr (fun j hj => by rw [put_ne (by intro h; subst h; revert hj; decide), b3 j (by intro h; subst h; revert hj; decide)]) (by rw [put_ne (by decide), b3 0 (by decide)]) (by rw [put_ne (by decide), b3 0 (by decide)]) (by rw [put_ne (by decide), b3 0 (by decide)]) (by rw [put_ne (by decide), b3 0 (by decide)])
      · intro j j1; rw [put_ne j1, b3 j j1, hE j j1]
      · intro j h0 h1
        rw [put_at]
        exact b4 j h0 (by omega)
    · rw [iF (by omega)]
      refine ⟨τ, rfl, hE, ?_⟩
      have : c = V.2.2.2.2.2.1.toNat := by omega
      unfold lineV; rw [← this]
      intro j h0 h1; exact H j h0 (by omega)
end

section
set_option linter.unusedVariables false
variable {σ τ : Sg} {V : Vw}
noncomputable def fstI (P : Int → Prop) : Nat → Int → Int
  | 0, _ => -1
  | n + 1, i => @ite Int (P i) (Classical.propDecidable (P i)) i (fstI P n (i + 1))
theorem fstI_cases (P : Int → Prop) : ∀ (n : Nat) (i : Int), 0 ≤ i → fstI P n i = -1 ∨ (i ≤ fstI P n i ∧ fstI P n i < i + n ∧ P (fstI P n i))
  | 0, i, _ => .inl rfl
  | n + 1, i, h => by
    unfold fstI
    by_cases c : P i
    · rw [if_pos c]; right; exact ⟨by omega, by omega, c⟩
    · rw [if_neg c]
      rcases fstI_cases P n (i + 1) (by omega) with h | ⟨h1, h2, h3⟩
      · exact .inl h
      · right; exact ⟨by omega, by omega, h3⟩
theorem frst {β : Type} {L : Nat → Int → Option β} {m : Int} {P : Int → Prop} {a : Int → Option β} {b : Option β}
    (h0 : ∀ n i, 0 ≤ i → i < m → P i → L (n + 1) i = a i) (h1 : ∀ n i, 0 ≤ i → i < m → ¬ P i → L (n + 1) i = L n (i + 1))
    (h2 : ∀ n i, 0 ≤ i → m ≤ i → L (n + 1) i = b) :
    ∀ (n : Nat) (i : Int), 0 ≤ i → m - i < (n : Int) → 0 < n → L n i = if fstI P (m - i).toNat i = -1 then b else a (fstI P (m - i).toNat i) := by
  intro n
  induction n with
  | zero => intro i _ _ h; omega
  | succ n ih =>
    intro i hi hn _
    by_cases hm : i < m
    · rw [show (m - i).toNat = (m - (i + 1)).toNat + 1 by omega]
      unfold fstI
      by_cases hp : P i
      · rw [if_pos hp, iF (by omega)]; exact h0 n i hi hm hp
      · rw [if_neg hp, h1 n i hi hm hp]; exact ih (i + 1) (by omega) (by omega) (by omega)
    · rw [h2 n i hi (by omega), show (m - i).toNat = 0 by omega]
      unfold fstI; rw [iT rfl]
def okV (V : Vw) (c w k : Int) : Prop := told V k ∧ V.2.1.1 k = V.2.1.1 (V.2.2.1.2.2.2.1 c) ∧ V.1.2.1 k ≤ V.1.2.1 (V.2.2.1.2.2.2.1 c) ∧ safeV V k (V.2.2.1.2.2.2.2 c) (V.2.2.2.1.1 c) w ∧ holdsV V (V.2.2.1.2.2.2.2 c) k
noncomputable def otherV (V : Vw) (c w : Int) : Int := fstI (okV V c w) 12 0
def wellV (V : Vw) (c : Int) : Prop := safeV V (V.2.2.1.2.2.2.1 c) (V.2.2.1.2.2.2.2 c) (V.2.2.2.1.1 c) (knownV V (fireV V c))
noncomputable def hasV (V : Vw) (c : Int) : Int := @ite Int (wellV V c) (Classical.propDecidable _) (V.2.2.1.2.2.2.1 c) (otherV V c (knownV V (fireV V c)))
noncomputable def fate1 (V : Vw) (c m : Int) : Int :=
  if V.2.2.1.2.2.2.2 c = -1 then 6 else if V.2.2.2.2.2.2.2.2 ≠ -1 ∧ V.2.2.2.2.2.2.2.2 ≤ fireV V c then 4 else @ite Int (anyV V c m) (Classical.propDecidable _) 3 (if hasV V c = -1 then 2 else if V.2.2.2.1.2.1 c = 6 then 5 else @ite Int (wellV V c) (Classical.propDecidable _) 0 1)
noncomputable def misV (V : Vw) (F L : Int → Int) (i f : Int) : Int := sumI (fun j => bi (F (L j) = 5 ∧ V.2.2.1.2.2.1 (L j) ≤ f)) i.toNat 0
noncomputable def plF (V : Vw) (L : Int → Int) : Nat → (Int → Int)
  | 0 => fun _ => 0
  | i + 1 => zupd (plF V L i) (L i) (fate1 V (L i) (misV V (plF V L i) L i (fireV V (L i))))
noncomputable def fateV (V : Vw) : Int → Int := plF V (lineV V) V.2.2.2.2.2.1.toNat
def isSh (x : Int) : Prop := x = 0 ∨ x = 1 ∨ x = 5
def Played (V : Vw) (L F H : Int → Int) : Prop := ∀ c, 0 ≤ c → c < V.2.2.2.2.2.1 → L c = lineV V c ∧ F c = fateV V c ∧ (isSh (F c) → H c = hasV V c)
theorem put_self {σ : Sg} {i : Nat} {k v : Int} : put σ i k v i = zupd (σ i) k v := by unfold put setA zupd; rw [if_pos rfl]
theorem brg_b (R : RelN σ V) {c : Int} (h0 : 0 ≤ c) (h1 : c < V.2.2.2.2.2.1) (h : V.2.2.1.2.2.2.2 c ≠ -1) : isB V (V.2.2.1.2.2.2.2 c) := by
  rcases (R.c c h0 h1).2.2.1 with x | x
  · exact absurd x h
  · exact x
theorem cc_kindToFire (R : RelV σ V) {c : Int} (h0 : 0 ≤ c) (h1 : c < V.2.2.2.2.2.1) (hb : V.2.2.1.2.2.2.2 c ≠ -1) : fX7_kindToFire c (knownV V (fireV V c)) σ = some (hasV V c) := by
  have hB := brg_b R.toRelN h0 h1 hb
  have e := R.c c h0 h1
  have ht := e.2.1
  have ha := e.2.2.2.1
  have hw := known_rng R.toRelN (fireV V c)
  have hwell : safeV V (V.2.2.1.2.2.2.1 c) (V.2.2.1.2.2.2.2 c) (V.2.2.2.1.1 c) (knownV V (fireV V c)) ↔ wellV V c := Iff.rfl
  generalize hW : knownV V (fireV V c) = w at hw hwell ⊢
  unfold fX7_kindToFire
  rw [cc_kind R.toRelN h0 h1]; simp only [bnd_e]
  rw [cc_barge R.toRelN h0 h1]; simp only [bnd_e]
  rw [cc_angle R.toRelN h0 h1]; simp only [bnd_e]
  rw [cc_safe R ht hB ha hw]; simp only [bnd_e]
  unfold hasV
  by_cases hs : safeV V (V.2.2.1.2.2.2.1 c) (V.2.2.1.2.2.2.2 c) (V.2.2.2.1.1 c) w
  · rw [bi_T hs, if_pos (hwell.1 hs)]; rfl
  · rw [bi_F hs, if_neg (fun x => hs (hwell.2 x)), iT rfl]
    have loop := frst (L := fun n i => (fX7_kindToFire_L61 n w (V.2.2.1.2.2.2.1 c) (V.2.2.1.2.2.2.2 c) (V.2.2.2.1.1 c) i σ).bind (Sum.elim (fun a35 => some a35) (fun a37 => some (-1)))) (m := 12) (P := okV V c w) (a := fun i => some i) (b := some (-1))
      (fun n i a1 a2 a3 => by
        unfold fX7_kindToFire_L61
        obtain ⟨b1, b2, b3, b4, b5⟩ := a3
        rw [iT a2, cc_toldT R.toRelN b1]; simp only [bnd_e]; rw [iF (by omega)]
        rw [cc_colour R.toRelN b1]; simp only [bnd_e]
        rw [cc_colour R.toRelN ht]; simp only [bnd_e]; rw [iT b2]
        rw [cc_lift R.toRelN b1]; simp only [bnd_e]
        rw [cc_lift R.toRelN ht]; simp only [bnd_e]; rw [iT b3]
        rw [cc_safe R b1 hB ha hw, bi_T b4]; simp only [bnd_e]; rw [iF (by omega)]
        rw [cc_holds R.toRelN hB b1, bi_T b5]; rfl)
      (fun n i a1 a2 a3 => by
        have fin : fX7_kindToFire_L61 (n + 1) w (V.2.2.1.2.2.2.1 c) (V.2.2.1.2.2.2.2 c) (V.2.2.2.1.1 c) i σ = fX7_kindToFire_L61 n w (V.2.2.1.2.2.2.1 c) (V.2.2.1.2.2.2.2 c) (V.2.2.2.1.1 c) (i + 1) σ := by
          have nxt : fX7_kindToFire_L61P141 (fX7_kindToFire_L61 n) w (V.2.2.1.2.2.2.1 c) (V.2.2.1.2.2.2.2 c) (V.2.2.2.1.1 c) i σ = fX7_kindToFire_L61 n w (V.2.2.1.2.2.2.1 c) (V.2.2.1.2.2.2.2 c) (V.2.2.2.1.1 c) (i + 1) σ := by
            unfold fX7_kindToFire_L61P141; rw [ck_e (by omega) (by omega)]
          conv => lhs; unfold fX7_kindToFire_L61
          rw [iT a2]
          by_cases b1 : told V i
          · rw [cc_toldT R.toRelN b1]; simp only [bnd_e]; rw [iF (by omega)]
            rw [cc_colour R.toRelN b1]; simp only [bnd_e]
            rw [cc_colour R.toRelN ht]; simp only [bnd_e]
            by_cases b2 : V.2.1.1 i = V.2.1.1 (V.2.2.1.2.2.2.1 c)
            · rw [iT b2]
              rw [cc_lift R.toRelN b1]; simp only [bnd_e]
              rw [cc_lift R.toRelN ht]; simp only [bnd_e]
              by_cases b3 : V.1.2.1 i ≤ V.1.2.1 (V.2.2.1.2.2.2.1 c)
              · rw [iT b3, cc_safe R b1 hB ha hw]; simp only [bnd_e]
                by_cases b4 : safeV V i (V.2.2.1.2.2.2.2 c) (V.2.2.2.1.1 c) w
                · rw [bi_T b4, iF (by omega), cc_holds R.toRelN hB b1]; simp only [bnd_e]
                  rw [bi_F (fun x => a3 ⟨b1, b2, b3, b4, x⟩), iT rfl]; exact nxt
                · rw [bi_F b4, iT rfl]; exact nxt
              · rw [iF b3]; exact nxt
            · rw [iF b2]; exact nxt
          · rw [cc_told R.toRelN, bi_F b1]; simp only [bnd_e, ↓reduceIte]; exact nxt
        rw [fin])
      (fun n i a1 a2 => by unfold fX7_kindToFire_L61; rw [iF (by omega)]; rfl) fu 0 (by omega) (by rw [fu_i]; omega) fu_pos
    rw [loop]
    unfold otherV
    rw [hW, show ((12 : Int) - 0).toNat = 12 from rfl]
    split
    · rename_i h; rw [h]
    · rfl
theorem rr_otherKind (R : RelN σ (vw τ)) {c w : Int} (h0 : 0 ≤ c) (h1 : c < τ 0 32) (hb : τ 15 c ≠ -1) (hw : 0 ≤ w ∧ w < 4) : fX12_otherKind c w τ = some (otherV (vw τ) c w) := by
  have hB := brg_b R h0 h1 hb
  have hn := R.n
  have e := R.c c h0 h1
  have ht := e.2.1
  have ha := e.2.2.2.1
  have ht1 := ht.1
  dsimp only [vw] at ht1 hn
  have stp : ∀ n i, 0 ≤ i → i < 12 → (okV (vw τ) c w i → fX12_otherKind_L2 (n + 1) c w i τ = some (.inl i)) ∧ (¬ okV (vw τ) c w i → fX12_otherKind_L2 (n + 1) c w i τ = fX12_otherKind_L2 n c w (i + 1) τ) := by
    intro n i a1 a2
    have nxt : fX12_otherKind_L2P93 (fX12_otherKind_L2 n) c w i τ = fX12_otherKind_L2 n c w (i + 1) τ := by
      unfold fX12_otherKind_L2P93; rw [ck_e (by omega) (by omega)]
    conv => enter [1, 2, 1]; unfold fX12_otherKind_L2
    conv => enter [2, 2, 1]; unfold fX12_otherKind_L2
    rw [iT a2]
    by_cases b1 : told (vw τ) i
    · rw [rr_isKind, bi_T b1]; simp only [bnd_e]; rw [iF (by omega)]
      rw [rd_e (by omega) (by omega), rd_e (by omega) (by omega), rd_e (by omega) (by omega)]
      by_cases b2 : τ 6 i = τ 6 (τ 14 c)
      · rw [iT b2]
        rw [rd_e (by omega) (by omega), rd_e (by omega) (by omega), rd_e (by omega) (by omega)]
        by_cases b3 : τ 2 i ≤ τ 2 (τ 14 c)
        · rw [iT b3, rd_e (by omega) (by omega), rr_holds R hB b1]; simp only [bnd_e]
          by_cases b5 : holdsV (vw τ) (τ 15 c) i
          · rw [bi_T b5, iF (by omega), rd_e (by omega) (by omega), rd_e (by omega) (by omega), rr_safe R b1 hB ha hw]; simp only [bnd_e]
            by_cases b4 : safeV (vw τ) i (τ 15 c) (τ 16 c) w
            · rw [bi_T b4, iF (by omega)]
              exact ⟨fun _ => rfl, fun x => absurd ⟨b1, b2, b3, b4, b5⟩ x⟩
            · rw [bi_F b4, iT rfl]; exact ⟨fun x => absurd x.2.2.2.1 b4, fun _ => nxt⟩
          · rw [bi_F b5, iT rfl]; exact ⟨fun x => absurd x.2.2.2.2 b5, fun _ => nxt⟩
        · rw [iF b3]; exact ⟨fun x => absurd x.2.2.1 b3, fun _ => nxt⟩
      · rw [iF b2]; exact ⟨fun x => absurd x.2.1 b2, fun _ => nxt⟩
    · rw [rr_isKind, bi_F b1]; simp only [bnd_e, ↓reduceIte]; exact ⟨fun x => absurd x.1 b1, fun _ => nxt⟩
  have loop := frst (L := fun n i => fX12_otherKind_L2 n c w i τ) (m := 12) (P := okV (vw τ) c w) (a := fun i => some (.inl i)) (b := some (.inr ()))
    (fun n i a1 a2 a3 => (stp n i a1 a2).1 a3) (fun n i a1 a2 a3 => (stp n i a1 a2).2 a3)
    (fun n i a1 a2 => by unfold fX12_otherKind_L2; rw [iF (by omega)]) fu 0 (by omega) (by rw [fu_i]; omega) fu_pos
  unfold fX12_otherKind
  rw [loop]
  unfold otherV
  rw [show ((12 : Int) - 0).toNat = 12 from rfl]
  split
  · rename_i h; rw [h]; rfl
  · rfl
theorem misV_cong {F F' L L' : Int → Int} {i f : Int} (h : ∀ j : Int, 0 ≤ j → j < i → L j = L' j ∧ F (L j) = F' (L' j)) : misV V F L i f = misV V F' L' i f := by
  unfold misV
  refine sumI_cong (fun j h0 h1 => ?_)
  obtain ⟨a, b⟩ := h j h0 (by omega)
  rw [b, a]
theorem misV_rng {F L : Int → Int} {i f : Int} (h : 0 ≤ i) : 0 ≤ misV V F L i f ∧ misV V F L i f ≤ i := by
  unfold misV
  have := sumI_rng (g := fun j => bi (F (L j) = 5 ∧ V.2.2.1.2.2.1 (L j) ≤ f)) (fun j => bi_rng) i.toNat 0
  omega
theorem cc_mis (R : RelN σ V) {i f : Int} {L : Int → Int} (hi : 0 ≤ i ∧ i ≤ 120) (H : ∀ j : Int, 0 ≤ j → j < i → σ 50 j = L j ∧ 0 ≤ L j ∧ L j < V.2.2.2.2.2.1) : fX7_misfiresSeen i f σ = some (misV V (σ 52) L i f) := by
  have hn := R.n
  have loop := cnt (L := fun n a j => fX7_misfiresSeen_L5 n i f a j σ) (m := i) (g := fun j => bi (σ 52 (L j) = 5 ∧ V.2.2.1.2.2.1 (L j) ≤ f)) (fun j => bi_rng)
    (fun n a j h0 h1 h2 h3 => by
      obtain ⟨e1, e2, e3⟩ := H j h0 h1
      conv => lhs; unfold fX7_misfiresSeen_L5
      rw [iT h1, iT (by omega), rd_e (by omega) (by omega), e1]
      have : fX7_fateOf (L j) σ = some (σ 52 (L j)) := by unfold fX7_fateOf; (try simp (disch := omega) only [↓ck_e, ↓rd_e, ↓wr_e, ↓wrB_e, ↓wrZ_e, ↓dv_e, ↓md_e, ↓fdv_e, ↓cpy_e, ↓filB_e, ↓filI_e, ↓filL_e, ↓st1_e, ↓bnd_e, ↓iT, ↓iF, ↓reduceIte, put_ne, put_T, put_F, isIn_T, isIn_F])
      rw [this]; simp only [bnd_e]
      by_cases c1 : σ 52 (L j) = 5
      · rw [iT c1, cc_burst R e2 e3]; simp only [bnd_e]
        by_cases c2 : V.2.2.1.2.2.1 (L j) ≤ f
        · rw [iT c2, bi_T ⟨c1, c2⟩]; unfold fX7_misfiresSeen_L5P53; (try simp (disch := omega) only [↓ck_e, ↓rd_e, ↓wr_e, ↓wrB_e, ↓wrZ_e, ↓dv_e, ↓md_e, ↓fdv_e, ↓cpy_e, ↓filB_e, ↓filI_e, ↓filL_e, ↓st1_e, ↓bnd_e, ↓iT, ↓iF, ↓reduceIte, put_ne, put_T, put_F, isIn_T, isIn_F])
        · rw [iF c2, bi_F (fun x => c2 x.2)]; unfold fX7_misfiresSeen_L5P53; (try simp (disch := omega) only [↓ck_e, ↓rd_e, ↓wr_e, ↓wrB_e, ↓wrZ_e, ↓dv_e, ↓md_e, ↓fdv_e, ↓cpy_e, ↓filB_e, ↓filI_e, ↓filL_e, ↓st1_e, ↓bnd_e, ↓iT, ↓iF, ↓reduceIte, put_ne, put_T, put_F, isIn_T, isIn_F]); rw [show a + 0 = a by omega]
      · rw [iF c1, bi_F (fun x => c1 x.1)]; unfold fX7_misfiresSeen_L5P53; (try simp (disch := omega) only [↓ck_e, ↓rd_e, ↓wr_e, ↓wrB_e, ↓wrZ_e, ↓dv_e, ↓md_e, ↓fdv_e, ↓cpy_e, ↓filB_e, ↓filI_e, ↓filL_e, ↓st1_e, ↓bnd_e, ↓iT, ↓iF, ↓reduceIte, put_ne, put_T, put_F, isIn_T, isIn_F]); rw [show a + 0 = a by omega])
    (fun n a j h0 => by unfold fX7_misfiresSeen_L5; rw [iF (by omega)])
    fu 0 0 (by omega) (by omega) (by omega) (by rw [fu_i]; omega) fu_pos
  unfold fX7_misfiresSeen misV
  rw [loop]; simp only [bnd_e]
  congr 1
  rw [show (i - 0).toNat = i.toNat by omega]; omega
end

section
set_option linter.unusedVariables false
variable {σ τ : Sg} {V : Vw}
theorem ne_of_mem {j k : Nat} {l : List Nat} (hj : j ∈ l) (hk : k ∉ l) : j ≠ k := fun h => hk (h ▸ hj)
theorem other_ne (R : RelN σ V) {c w : Int} (h : otherV V c w ≠ -1) : okV V c w (otherV V c w) := by
  unfold otherV at h ⊢
  rcases fstI_cases (okV V c w) 12 0 (by omega) with x | ⟨x1, x2, x3⟩
  · exact absurd x h
  · exact x3
theorem cc_fate (R : RelV σ V) {c m : Int} (h0 : 0 ≤ c) (h1 : c < V.2.2.2.2.2.1) :
    ∃ σ', fX7_reckonFate c (fireV V c) m σ = some σ' ∧ (∀ j, j ≠ 52 → j ≠ 53 → σ' j = σ j) ∧ σ' 52 = zupd (σ 52) c (fate1 V c m) ∧ (∀ d, d ≠ c → σ' 53 d = σ 53 d) ∧ (isSh (fate1 V c m) → σ' 53 c = hasV V c) := by
  have hn := R.n
  have e := R.c c h0 h1
  have hh := R.h
  have hfr := fire_rng R.toRelN h0 h1
  have R1 : ∀ v, RelV (put σ 53 c v) V := fun v => RelV_congr R (fun j hj => put_ne (ne_of_mem hj (by decide)))
  have go : ∃ σ', fX7_reckonFate c (fireV V c) m σ = some σ' ∧ (σ' = put (put σ 53 c (V.2.2.1.2.2.2.1 c)) 52 c (fate1 V c m) ∧ ¬ isSh (fate1 V c m) ∨ σ' = put (put (put σ 53 c (V.2.2.1.2.2.2.1 c)) 52 c (fate1 V c m)) 53 c (hasV V c)) := by
    unfold fX7_reckonFate
    rw [iF (by omega), iT (by omega), cc_known R.toRelN]; simp only [bnd_e]
    rw [cc_kind R.toRelN h0 h1]; simp only [bnd_e]
    rw [wr_e (by omega) (by omega), cc_barge (R1 _).toRelN h0 h1]; simp only [bnd_e]
    have tail : ¬ V.2.2.1.2.2.2.2 c = -1 → ¬ (V.2.2.2.2.2.2.2.2 ≠ -1 ∧ V.2.2.2.2.2.2.2.2 ≤ fireV V c) → ∃ σ', fX7_reckonFate_P84 c (fireV V c) m (knownV V (fireV V c)) (put σ 53 c (V.2.2.1.2.2.2.1 c)) = some σ' ∧ (σ' = put (put σ 53 c (V.2.2.1.2.2.2.1 c)) 52 c (fate1 V c m) ∧ ¬ isSh (fate1 V c m) ∨ σ' = put (put (put σ 53 c (V.2.2.1.2.2.2.1 c)) 52 c (fate1 V c m)) 53 c (hasV V c)) := by
      intro t1 t2
      unfold fX7_reckonFate_P84
      rw [cc_any (R1 _).toRelN h0 h1]; simp only [bnd_e]
      unfold fate1; rw [if_neg t1, if_neg t2]
      by_cases t3 : anyV V c m
      · rw [bi_T t3, iF (by omega), if_pos t3, wr_e (by omega) (by omega)]
        exact ⟨_, rfl, .inl ⟨rfl, by unfold isSh; omega⟩⟩
      · rw [bi_F t3, iT rfl, if_neg t3, cc_kindToFire (R1 _) h0 h1 t1]; simp only [bnd_e]
        by_cases t4 : hasV V c = -1
        · rw [iT t4, if_pos t4]; unfold fX7_reckonFate_P170; rw [wr_e (by omega) (by omega), wr_e (by omega) (by omega)]
          exact ⟨_, rfl, .inr rfl⟩
        · rw [iF t4, if_neg t4, rd_e (by omega) (by omega), put_ne (by decide), e.1.2.2.2.2]
          by_cases t5 : V.2.2.2.1.2.1 c = 6
          · rw [iT t5, if_pos t5]; unfold fX7_reckonFate_P170; rw [wr_e (by omega) (by omega), wr_e (by omega) (by omega)]
            exact ⟨_, rfl, .inr rfl⟩
          · rw [iF t5, if_neg t5, cc_kind (R1 _).toRelN h0 h1]; simp only [bnd_e]
            by_cases t6 : wellV V c
            · rw [if_pos t6, iT (by unfold hasV; rw [if_pos t6])]; unfold fX7_reckonFate_P170; rw [wr_e (by omega) (by omega), wr_e (by omega) (by omega)]
              exact ⟨_, rfl, .inr rfl⟩
            · rw [if_neg t6, iF]
              · unfold fX7_reckonFate_P170; rw [wr_e (by omega) (by omega), wr_e (by omega) (by omega)]
                exact ⟨_, rfl, .inr rfl⟩
              · intro x
                have hx : hasV V c = otherV V c (knownV V (fireV V c)) := by unfold hasV; rw [if_neg t6]
                have := other_ne R.toRelN (c := c) (w := knownV V (fireV V c)) (by rw [← hx]; exact t4)
                rw [← hx, x] at this
                exact t6 this.2.2.2.1
    by_cases t1 : V.2.2.1.2.2.2.2 c = -1
    · rw [iT t1, wr_e (by omega) (by omega)]; unfold fate1; rw [if_pos t1]
      exact ⟨_, rfl, .inl ⟨rfl, by unfold isSh; omega⟩⟩
    · rw [iF t1, put_ne (by decide), hh.1]
      by_cases t2 : V.2.2.2.2.2.2.2.2 = -1
      · rw [iT t2]; exact tail t1 (fun x => x.1 t2)
      · rw [iF t2]
        by_cases t3 : fireV V c < V.2.2.2.2.2.2.2.2
        · rw [iT t3]; exact tail t1 (fun x => by omega)
        · rw [iF t3, wr_e (by omega) (by omega)]; unfold fate1; rw [if_neg t1, if_pos ⟨t2, by omega⟩]
          exact ⟨_, rfl, .inl ⟨rfl, by unfold isSh; omega⟩⟩
  obtain ⟨σ', g1, g2 | g2⟩ := go
  · obtain ⟨rfl, g3⟩ := g2
    refine ⟨_, g1, ?_, ?_, ?_, fun x => absurd x g3⟩
    · intro j a b; rw [put_ne a, put_ne b]
    · rw [put_self, put_ne (by decide)]
    · intro d hd; rw [put_ne (by decide), put_F hd]
  · subst g2
    refine ⟨_, g1, ?_, ?_, ?_, ?_⟩
    · intro j a b; rw [put_ne b, put_ne a, put_ne b]
    · rw [put_ne (by decide), put_self, put_ne (by decide)]
    · intro d hd; rw [put_F hd, put_ne (by decide), put_F hd]
    · intro _; rw [put_T rfl]
set_option maxRecDepth 10000 in
theorem cc_reckonL {σ0 : Sg} (R0 : RelV σ0 V) : ∀ (n : Nat) (σ : Sg) (i : Nat), (∀ j, j ≠ 50 → j ≠ 51 → j ≠ 52 → j ≠ 53 → σ j = σ0 j) → (∀ j : Int, 0 ≤ j → j < V.2.2.2.2.2.1 → σ 50 j = lineV V j ∧ σ 51 j = fireV V (lineV V j)) → (i : Int) ≤ V.2.2.2.2.2.1 → V.2.2.2.2.2.1 - i < (n : Int) →
    (∀ j : Int, 0 ≤ j → j < i → σ 52 (lineV V j) = plF V (lineV V) i (lineV V j) ∧ (isSh (σ 52 (lineV V j)) → σ 53 (lineV V j) = hasV V (lineV V j))) →
    ∃ σ', fX7_reckon_L6 n i σ = some σ' ∧ (∀ j, j ≠ 50 → j ≠ 51 → j ≠ 52 → j ≠ 53 → σ' j = σ0 j) ∧ (∀ j : Int, 0 ≤ j → j < V.2.2.2.2.2.1 → σ' 50 j = lineV V j) ∧ (∀ j : Int, 0 ≤ j → j < V.2.2.2.2.2.1 → σ' 52 (lineV V j) = fateV V (lineV V j) ∧ (isSh (σ' 52 (lineV V j)) → σ' 53 (lineV V j) = hasV V (lineV V j))) := by
  have hn0 := R0.n
  intro n
  induction n with
  | zero => intro σ i _ _ _ h; omega
  | succ n ih =>
    intro σ i hE hS hi hfu H
    have R : RelV σ V := RelV_congr R0 (fun j hj => hE j (ne_of_mem hj (by decide)) (ne_of_mem hj (by decide)) (ne_of_mem hj (by decide)) (ne_of_mem hj (by decide)))
    have hn := R.n
    have lr : ∀ j : Int, 0 ≤ j → j < V.2.2.2.2.2.1 → 0 ≤ lineV V j ∧ lineV V j < V.2.2.2.2.2.1 := fun j h0 h1 => by
      have := srtF_rng (fireV V) V.2.2.2.2.2.1.toNat j h0 (by omega)
      unfold lineV; omega
    unfold fX7_reckon_L6
    by_cases h : (i : Int) < V.2.2.2.2.2.1
    · obtain ⟨s1, s2⟩ := hS i (by omega) h
      obtain ⟨r1, r2⟩ := lr i (by omega) h
      rw [iT (by omega), iT (by omega), rd_e (by omega) (by omega), rd_e (by omega) (by omega), rd_e (by omega) (by omega), s1, s2]
      rw [cc_mis R.toRelN (L := lineV V) (by omega) (fun j a b => ⟨(hS j a (by omega)).1, lr j a (by omega)⟩)]
      simp only [bnd_e]
      obtain ⟨σ1, b1, b2, b3, b4, b5⟩ := cc_fate R (c := lineV V i) (m := misV V (σ 52) (lineV V) i (fireV V (lineV V i))) r1 r2
      rw [b1]; simp only [bnd_e]
      rw [ck_e (by omega) (by omega)]
      refine ih σ1 (i + 1) ?_ ?_ (by omega) (by omega) ?_
      · intro j j1 j2 j3 j4; rw [b2 j j3 j4, hE j j1 j2 j3 j4]
      · rw [b2 50 (by decide) (by decide), b2 51 (by decide) (by decide)]; exact hS
      · have hm : misV V (σ 52) (lineV V) i (fireV V (lineV V i)) = misV V (plF V (lineV V) i) (lineV V) i (fireV V (lineV V i)) := misV_cong (fun j a b => ⟨rfl, (H j a b).1⟩)
        intro j h0 h1
        rw [b3]
        unfold plF
        rw [← hm]
        by_cases e : lineV V j = lineV V i
        · rw [zupd_T e, zupd_T e]
          refine ⟨rfl, fun x => ?_⟩
          rw [e]; exact b5 x
        · rw [zupd_F e, zupd_F e, b4 _ e]
          exact H j h0 (by
            by_cases e2 : j = i
            · exact absurd (by rw [e2]) e
            · omega)
    · rw [iF (by omega)]
      have hin : i = V.2.2.2.2.2.1.toNat := by omega
      refine ⟨σ, rfl, hE, fun j a b => (hS j a b).1, ?_⟩
      unfold fateV; rw [← hin]
      intro j a b; exact H j a (by omega)
theorem line_sur (R : RelN σ V) {c : Int} (h0 : 0 ≤ c) (h1 : c < V.2.2.2.2.2.1) : ∃ j : Int, 0 ≤ j ∧ j < V.2.2.2.2.2.1 ∧ lineV V j = c := by
  obtain ⟨j, a, b, d⟩ := srtF_sur (fireV V) V.2.2.2.2.2.1.toNat c h0 (by omega)
  exact ⟨j, a, by omega, d⟩
theorem cc_reckon (R : RelV σ V) : ∃ σ', fX7_reckon σ = some σ' ∧ (∀ j, j ≠ 50 → j ≠ 51 → j ≠ 52 → j ≠ 53 → σ' j = σ j) ∧ Played V (σ' 50) (σ' 52) (σ' 53) := by
  have hn := R.n
  obtain ⟨σ1, a1, a2, a3⟩ := cc_sort R.toRelN
  obtain ⟨σ2, b1, b2, b3, b4⟩ := cc_reckonL R fu σ1 0 (fun j j1 j2 _ _ => a2 j j1 j2) a3 (by omega) (by rw [fu_i]; omega) (fun j h0 h1 => by omega)
  refine ⟨σ2, ?_, b2, ?_⟩
  · unfold fX7_reckon; rw [a1]; simp only [bnd_e]
    rw [show ((0 : Nat) : Int) = 0 from rfl] at b1
    rw [b1]; rfl
  · intro c h0 h1
    obtain ⟨j, j0, j1, rfl⟩ := line_sur R.toRelN h0 h1
    exact ⟨b3 _ h0 h1, b4 j j0 j1⟩

theorem rr_mis (R : RelN σ V) (hV : vw τ = V) {c i : Int} {L : Int → Int} (h0 : 0 ≤ c) (h1 : c < V.2.2.2.2.2.1) (hi : 0 ≤ i ∧ i ≤ 120) (H : ∀ j : Int, 0 ≤ j → j < i → τ 40 j = L j ∧ 0 ≤ L j ∧ L j < V.2.2.2.2.2.1) : fX12_fateOf_L38 fu c i 0 0 τ = some (misV V (τ 41) L i (fireV V c)) := by
  have hn := R.n
  have R' : RelN σ (vw τ) := by rw [hV]; exact R
  have e32 : τ 0 32 = V.2.2.2.2.2.1 := by rw [← hV]
  have e13 : τ 13 = V.2.2.1.2.2.1 := by rw [← hV]
  have hf : fX12_fire c τ = some (fireV V c) := by rw [rr_fire R' h0 (by omega)]; unfold fireV; rw [← hV]
  have loop := cnt (L := fun n a j => fX12_fateOf_L38 n c i a j τ) (m := i) (g := fun j => bi (τ 41 (L j) = 5 ∧ V.2.2.1.2.2.1 (L j) ≤ fireV V c)) (fun j => bi_rng)
    (fun n a j a0 a1 a2 a3 => by
      obtain ⟨e1, e2, e3⟩ := H j a0 a1
      conv => lhs; unfold fX12_fateOf_L38
      rw [iT a1, rd_e (by omega) (by omega), e1, rd_e (by omega) (by omega)]
      by_cases c1 : τ 41 (L j) = 5
      · rw [iT c1, rd_e (by omega) (by omega), e1, rd_e (by omega) (by omega), hf, e13]; simp only [bnd_e]
        by_cases c2 : V.2.2.1.2.2.1 (L j) ≤ fireV V c
        · rw [iT c2, bi_T ⟨c1, c2⟩]; unfold fX12_fateOf_L38P86; (try simp (disch := omega) only [↓ck_e, ↓rd_e, ↓wr_e, ↓wrB_e, ↓wrZ_e, ↓dv_e, ↓md_e, ↓fdv_e, ↓cpy_e, ↓filB_e, ↓filI_e, ↓filL_e, ↓st1_e, ↓bnd_e, ↓iT, ↓iF, ↓reduceIte, put_ne, put_T, put_F, isIn_T, isIn_F])
        · rw [iF c2, bi_F (fun x => c2 x.2)]; unfold fX12_fateOf_L38P85 fX12_fateOf_L38P86; (try simp (disch := omega) only [↓ck_e, ↓rd_e, ↓wr_e, ↓wrB_e, ↓wrZ_e, ↓dv_e, ↓md_e, ↓fdv_e, ↓cpy_e, ↓filB_e, ↓filI_e, ↓filL_e, ↓st1_e, ↓bnd_e, ↓iT, ↓iF, ↓reduceIte, put_ne, put_T, put_F, isIn_T, isIn_F])
      · rw [iF c1, bi_F (fun x => c1 x.1)]; unfold fX12_fateOf_L38P85 fX12_fateOf_L38P86; (try simp (disch := omega) only [↓ck_e, ↓rd_e, ↓wr_e, ↓wrB_e, ↓wrZ_e, ↓dv_e, ↓md_e, ↓fdv_e, ↓cpy_e, ↓filB_e, ↓filI_e, ↓filL_e, ↓st1_e, ↓bnd_e, ↓iT, ↓iF, ↓reduceIte, put_ne, put_T, put_F, isIn_T, isIn_F]))
    (fun n a j a0 => by unfold fX12_fateOf_L38; rw [iF (by omega)])
    fu 0 0 (by omega) (by omega) (by omega) (by rw [fu_i]; omega) fu_pos
  rw [loop]
  unfold misV
  congr 1
  rw [show (i - 0).toNat = i.toNat by omega]; omega
theorem vw_39 {τ τ' : Sg} (h : ∀ j, j ≠ 39 → τ' j = τ j) : vw τ' = vw τ :=
  vw_congr (fun j hj => h j (ne_of_mem hj (by decide))) (by rw [h 0 (by decide)]) (by rw [h 0 (by decide)]) (by rw [h 0 (by decide)]) (by rw [h 0 (by decide)])
theorem rr_fate (R : RelN σ V) (hV : vw τ = V) {c i : Int} {L : Int → Int} (h0 : 0 ≤ c) (h1 : c < V.2.2.2.2.2.1) (hi : 0 ≤ i ∧ i ≤ 120) (H : ∀ j : Int, 0 ≤ j → j < i → τ 40 j = L j ∧ 0 ≤ L j ∧ L j < V.2.2.2.2.2.1) (hk : τ 42 c = V.2.2.1.2.2.2.1 c) :
    ∃ τ', fX12_fateOf c i τ = some (fate1 V c (misV V (τ 41) L i (fireV V c)), τ') ∧ (∀ j, j ≠ 39 → j ≠ 42 → τ' j = τ j) ∧ (∀ d, d ≠ c → τ' 42 d = τ 42 d) ∧ (isSh (fate1 V c (misV V (τ 41) L i (fireV V c))) → τ' 42 c = hasV V c) := by
  have hn := R.n
  have hh := R.h
  have e := R.c c h0 h1
  have ht := e.2.1
  have R' : RelN σ (vw τ) := by rw [hV]; exact R
  have e32 : τ 0 32 = V.2.2.2.2.2.1 := by rw [← hV]
  have e35 : τ 0 35 = V.2.2.2.2.2.2.2.2 := by rw [← hV]
  have e15 : τ 15 = V.2.2.1.2.2.2.2 := by rw [← hV]
  have hf : fX12_fire c τ = some (fireV V c) := by rw [rr_fire R' h0 (by omega)]; unfold fireV; rw [← hV]
  have hm := rr_mis R hV h0 h1 hi H
  obtain ⟨m, hmm⟩ : ∃ m, m = misV V (τ 41) L i (fireV V c) := ⟨_, rfl⟩
  rw [← hmm] at hm ⊢
  unfold fX12_fateOf
  rw [rd_e (by omega) (by omega), e15]
  by_cases t1 : V.2.2.1.2.2.2.2 c = -1
  · rw [iT (by omega)]
    refine ⟨τ, ?_, fun _ _ _ => rfl, fun _ _ => rfl, ?_⟩
    · unfold fate1; rw [if_pos t1]
    · unfold fate1; rw [if_pos t1]; unfold isSh; omega
  · have hB := brg_b R h0 h1 t1
    have hB1 := hB.1
    rw [iF (by omega)]
    have tail : ¬ (V.2.2.2.2.2.2.2.2 ≠ -1 ∧ V.2.2.2.2.2.2.2.2 ≤ fireV V c) → ∃ τ', fX12_fateOf_P33 c i τ = some (fate1 V c m, τ') ∧ (∀ j, j ≠ 39 → j ≠ 42 → τ' j = τ j) ∧ (∀ d, d ≠ c → τ' 42 d = τ 42 d) ∧ (isSh (fate1 V c m) → τ' 42 c = hasV V c) := by
      intro t2
      unfold fX12_fateOf_P33
      rw [hm]; simp only [bnd_e]
      obtain ⟨τ1, a1, a2⟩ := rr_any R (m := m) h0 h1 fu τ 0 hV (by omega) (by have := R.r.1; rw [fu_i]; omega) fu_pos
      rw [a2]; simp only [bnd_e]
      unfold fate1; rw [if_neg t1, if_neg t2]
      by_cases t3 : anyV V c m
      · rw [if_pos (show ∃ r, 0 ≤ r ∧ r < V.2.2.2.2.2.2.2.1 ∧ ruleV V r c m = true from t3), if_pos t3]
        exact ⟨τ1, rfl, fun j j1 _ => a1 j j1, fun d _ => by rw [a1 42 (by decide)], by unfold isSh; omega⟩
      · rw [if_neg (show ¬ ∃ r, 0 ≤ r ∧ r < V.2.2.2.2.2.2.2.1 ∧ ruleV V r c m = true from t3), if_neg t3]
        have hV1 : vw τ1 = V := by rw [vw_39 a1, hV]
        have R1 : RelN σ (vw τ1) := by rw [hV1]; exact R
        have f32 : τ1 0 32 = V.2.2.2.2.2.1 := by rw [← hV1]
        have f14 : τ1 14 = V.2.2.1.2.2.2.1 := by rw [← hV1]
        have f15 : τ1 15 = V.2.2.1.2.2.2.2 := by rw [← hV1]
        have f16 : τ1 16 = V.2.2.2.1.1 := by rw [← hV1]
        have f17 : τ1 17 = V.2.2.2.1.2.1 := by rw [← hV1]
        have hf1 : fX12_fire c τ1 = some (fireV V c) := by rw [rr_fire R1 h0 (by omega)]; unfold fireV; rw [← hV1]
        have hk1 : τ1 42 c = V.2.2.1.2.2.2.1 c := by rw [a1 42 (by decide)]; exact hk
        simp only [Sum.elim_inr]
        rw [hf1]; simp only [bnd_e]
        rw [rr_known R1, hV1]; simp only [bnd_e]
        rw [rd_e (by omega) (by omega), rd_e (by omega) (by omega), rd_e (by omega) (by omega), f14, f15, f16]
        have hsafe := rr_safe R1 (k := V.2.2.1.2.2.2.1 c) (s := V.2.2.1.2.2.2.2 c) (a := V.2.2.2.1.1 c) (w := knownV V (fireV V c)) (by rw [hV1]; exact ht) (by rw [hV1]; exact hB) e.2.2.2.1 (known_rng R _)
        rw [hV1] at hsafe
        have hsafe' : fX12_isSafe (V.2.2.1.2.2.2.1 c) (V.2.2.1.2.2.2.2 c) (V.2.2.2.1.1 c) (knownV V (fireV V c)) τ1 = some (bi (wellV V c)) := hsafe
        rw [hsafe']; simp only [bnd_e]
        by_cases t6 : wellV V c
        · have hx : hasV V c = V.2.2.1.2.2.2.1 c := by unfold hasV; rw [if_pos t6]
          have htk := ht.1
          rw [bi_T t6, iF (by omega), hx, if_neg (by omega), if_pos t6]
          unfold fX12_fateOf_P180
          rw [rd_e (by omega) (by omega), hk1, iF (by omega), rd_e (by omega) (by omega), f17]
          refine ⟨τ1, ?_, fun j j1 _ => a1 j j1, fun d _ => by rw [a1 42 (by decide)], fun _ => hk1⟩
          by_cases t5 : V.2.2.2.1.2.1 c = 6
          · rw [iT t5, if_pos t5]
          · rw [iF t5, if_neg t5, iF (by omega)]
        · have hx : hasV V c = otherV V c (knownV V (fireV V c)) := by unfold hasV; rw [if_neg t6]
          have hoth := rr_otherKind R1 (c := c) (w := knownV V (fireV V c)) h0 (by omega) (by rw [f15]; exact t1) (known_rng R _)
          rw [hV1] at hoth
          rw [bi_F t6, iT rfl, hoth]; simp only [bnd_e]
          rw [wr_e (by omega) (by omega), if_neg t6, hx]
          unfold fX12_fateOf_P180
          rw [rd_e (by omega) (by omega), put_T rfl]
          by_cases t4 : otherV V c (knownV V (fireV V c)) = -1
          · rw [iT (by omega), if_pos t4, rd_e (by omega) (by omega), wr_e (by omega) (by omega)]
            exact ⟨_, rfl, fun j j1 j2 => by rw [put_ne j2, put_ne j2, a1 j j1], fun d hd => by rw [put_F hd, put_F hd, a1 42 (by decide)], by unfold isSh; omega⟩
          · have := (other_ne R t4).1.1
            rw [iF (by omega), if_neg t4, rd_e (by omega) (by omega), put_ne (by decide), f17]
            refine ⟨put τ1 42 c (otherV V c (knownV V (fireV V c))), ?_, fun j j1 j2 => by rw [put_ne j2, a1 j j1], fun d hd => by rw [put_F hd, a1 42 (by decide)], fun _ => put_T rfl⟩
            by_cases t5 : V.2.2.2.1.2.1 c = 6
            · rw [iT t5, if_pos t5]
            · rw [iF t5, if_neg t5, iT rfl]
    rw [e35]
    by_cases t2 : V.2.2.2.2.2.2.2.2 < 0
    · rw [iT t2]; exact tail (fun x => x.1 (by omega))
    · rw [iF t2, hf]; simp only [bnd_e]
      by_cases t3 : fireV V c < V.2.2.2.2.2.2.2.2
      · rw [iT t3]; exact tail (fun x => by omega)
      · rw [iF t3]
        refine ⟨τ, ?_, fun _ _ _ => rfl, fun _ _ => rfl, ?_⟩
        · unfold fate1; rw [if_neg t1, if_pos ⟨by omega, by omega⟩]
        · unfold fate1; rw [if_neg t1, if_pos ⟨by omega, by omega⟩]; unfold isSh; omega
theorem rr_playsL (R : RelN σ V) {τ0 : Sg} (hV0 : vw τ0 = V) : ∀ (n : Nat) (τ : Sg) (i : Nat), (∀ j, j ≠ 39 → j ≠ 41 → j ≠ 42 → τ j = τ0 j) → (∀ j : Int, 0 ≤ j → j < V.2.2.2.2.2.1 → τ 40 j = lineV V j) → (i : Int) ≤ V.2.2.2.2.2.1 → V.2.2.2.2.2.1 - i < (n : Int) →
    (∀ j : Int, 0 ≤ j → j < i → τ 41 (lineV V j) = plF V (lineV V) i (lineV V j) ∧ (isSh (τ 41 (lineV V j)) → τ 42 (lineV V j) = hasV V (lineV V j))) →
    ∃ τ', fX12_plays_L84 n i τ = some τ' ∧ (∀ j, j ≠ 39 → j ≠ 41 → j ≠ 42 → τ' j = τ0 j) ∧ (∀ j : Int, 0 ≤ j → j < V.2.2.2.2.2.1 → τ' 41 (lineV V j) = fateV V (lineV V j) ∧ (isSh (τ' 41 (lineV V j)) → τ' 42 (lineV V j) = hasV V (lineV V j))) := by
  have hn := R.n
  have fr : ∀ τ' : Sg, (∀ j, j ≠ 39 → j ≠ 41 → j ≠ 42 → τ' j = τ0 j) → vw τ' = V := fun τ' h => by
    rw [← hV0]
    exact vw_congr (fun j hj => h j (ne_of_mem hj (by decide)) (ne_of_mem hj (by decide)) (ne_of_mem hj (by decide))) (by rw [h 0 (by decide) (by decide) (by decide)]) (by rw [h 0 (by decide) (by decide) (by decide)]) (by rw [h 0 (by decide) (by decide) (by decide)]) (by rw [h 0 (by decide) (by decide) (by decide)])
  have lr : ∀ j : Int, 0 ≤ j → j < V.2.2.2.2.2.1 → 0 ≤ lineV V j ∧ lineV V j < V.2.2.2.2.2.1 := fun j h0 h1 => by
    have := srtF_rng (fireV V) V.2.2.2.2.2.1.toNat j h0 (by omega)
    unfold lineV; omega
  intro n
  induction n with
  | zero => intro τ i _ _ _ h; omega
  | succ n ih =>
    intro τ i hE hS hi hfu H
    have hV := fr τ hE
    have e32 : τ 0 32 = V.2.2.2.2.2.1 := by rw [← hV]
    have e14 : τ 14 = V.2.2.1.2.2.2.1 := by rw [← hV]
    unfold fX12_plays_L84
    by_cases h : (i : Int) < V.2.2.2.2.2.1
    · have s1 := hS i (by omega) h
      obtain ⟨r1, r2⟩ := lr i (by omega) h
      rw [iT (by omega), rd_e (by omega) (by omega), s1, rd_e (by omega) (by omega), e14, wr_e (by omega) (by omega)]
      have hE1 : ∀ j, j ≠ 39 → j ≠ 41 → j ≠ 42 → (put τ 42 (lineV V i) (V.2.2.1.2.2.2.1 (lineV V i))) j = τ0 j := fun j j1 j2 j3 => by rw [put_ne j3, hE j j1 j2 j3]
      obtain ⟨τ1, b1, b2, b3, b4⟩ := rr_fate R (fr _ hE1) (c := lineV V i) (i := i) (L := lineV V) r1 r2 (by omega) (fun j a b => by
        rw [put_ne (by decide)]; exact ⟨hS j a (by omega), lr j a (by omega)⟩) (put_T rfl)
      rw [put_ne (by decide : (41 : Nat) ≠ 42)] at b1 b4
      rw [b1]; simp only [bnd_e]
      rw [wr_e (by omega) (by omega), ck_e (by omega) (by omega)]
      refine ih _ (i + 1) ?_ ?_ (by omega) (by omega) ?_
      · intro j j1 j2 j3; rw [put_ne j2, b2 j j1 j3, hE1 j j1 j2 j3]
      · rw [put_ne (by decide), b2 40 (by decide) (by decide), put_ne (by decide)]; exact hS
      · have hm : misV V (τ 41) (lineV V) i (fireV V (lineV V i)) = misV V (plF V (lineV V) i) (lineV V) i (fireV V (lineV V i)) := misV_cong (fun j a b => ⟨rfl, (H j a b).1⟩)
        intro j h0 h1
        rw [put_self, put_ne (by decide), b2 41 (by decide) (by decide), put_ne (by decide)]
        unfold plF
        rw [← hm]
        by_cases e : lineV V j = lineV V i
        · rw [zupd_T e, zupd_T e]
          refine ⟨rfl, fun x => ?_⟩
          rw [e]; exact b4 x
        · rw [zupd_F e, zupd_F e, b3 _ e, put_F e]
          exact H j h0 (by
            by_cases e2 : j = i
            · exact absurd (by rw [e2]) e
            · omega)
    · rw [iF (by omega)]
      have hin : i = V.2.2.2.2.2.1.toNat := by omega
      refine ⟨τ, rfl, hE, ?_⟩
      unfold fateV; rw [← hin]
      intro j a b; exact H j a (by omega)
def playInv (τ : Sg) : Prop := τ 0 54 = 0 ∨ (τ 0 54 = 1 ∧ Played (vw τ) (τ 40) (τ 41) (τ 42))
theorem rr_plays (R : RelN σ (vw τ)) (hP : playInv τ) : ∃ τ', fX12_plays τ = some τ' ∧ (∀ j, j ≠ 0 → j ≠ 39 → j ≠ 40 → j ≠ 41 → j ≠ 42 → τ' j = τ j) ∧ (∀ p, p ≠ 54 → τ' 0 p = τ 0 p) ∧ τ' 0 54 = 1 ∧ Played (vw τ) (τ' 40) (τ' 41) (τ' 42) := by
  have hn := R.n
  rcases hP with h | ⟨h1, h2⟩
  · unfold fX12_plays
    rw [iT h, st1_e]
    have hV1 : vw (put τ 0 54 1) = vw τ := rfl
    obtain ⟨τ1, a1, a2, a3⟩ := rr_sortL R (τ0 := put τ 0 54 1) fu (put τ 0 54 1) 0 hV1 (fun _ _ => rfl) (by omega) (by rw [fu_i]; omega) (fun j h0 h1 => by omega)
    have hV2 : vw τ1 = vw τ := by
      rw [← hV1]
      exact vw_congr (fun j hj => a2 j (ne_of_mem hj (by decide))) (by rw [a2 0 (by decide)]) (by rw [a2 0 (by decide)]) (by rw [a2 0 (by decide)]) (by rw [a2 0 (by decide)])
    obtain ⟨τ2, b1, b2, b3⟩ := rr_playsL R (τ0 := τ1) hV2 fu τ1 0 (fun _ _ _ _ => rfl) a3 (by omega) (by rw [fu_i]; omega) (fun j h0 h1 => by omega)
    refine ⟨τ2, ?_, ?_, ?_, ?_, ?_⟩
    · rw [show ((0 : Nat) : Int) = 0 from rfl] at a1 b1
      rw [a1]; simp only [bnd_e]; rw [b1]; rfl
    · intro j j0 j1 j2 j3 j4; rw [b2 j j1 j3 j4, a2 j j2, put_ne j0]
    · intro p hp; rw [b2 0 (by decide) (by decide) (by decide), a2 0 (by decide), put_F hp]
    · rw [b2 0 (by decide) (by decide) (by decide), a2 0 (by decide), put_T rfl]
    · intro c h0 h1
      obtain ⟨j, j0, j1, rfl⟩ := line_sur R h0 h1
      refine ⟨?_, b3 j j0 j1⟩
      rw [b2 40 (by decide) (by decide) (by decide)]; exact a3 _ h0 h1
  · unfold fX12_plays
    rw [iF (by omega)]
    exact ⟨τ, rfl, fun _ _ _ _ _ _ => rfl, fun _ _ => rfl, h1, h2⟩
end

section
set_option linter.unusedVariables false
variable {σ τ : Sg} {V : Vw} {N : Int}
theorem one0 : ((1 : Int) = 0) = False := eq_false (by decide)
theorem two0 : ((2 : Int) = 0) = False := eq_false (by decide)

abbrev RelS (m : Int) (t c : Int → Int) (m' : Int) (t' c' : Int → Int) : Prop := (m = m' ∧ 0 ≤ m' ∧ m' ≤ 60) ∧ (∀ i, 0 ≤ i → i < m' → (0 ≤ t' i ∧ t' i ≤ 20010) ∧ (1 ≤ c' i ∧ c' i ≤ 9)) ∧ (∀ i j, 0 ≤ i → i < j → j < m' → t i ≤ t j) ∧ (∃ π ρ : Int → Int, (∀ i, 0 ≤ i → i < m' → (0 ≤ π i ∧ π i < m') ∧ ρ (π i) = i ∧ t i = t' (π i) ∧ c i = c' (π i)) ∧ (∀ i, 0 ≤ i → i < m' → (0 ≤ ρ i ∧ ρ i < m') ∧ π (ρ i) = i))
theorem RelS.n {m : Int} {t c : Int → Int} {m' : Int} {t' c' : Int → Int} (h : RelS m t c m' t' c') : m = m' ∧ 0 ≤ m' ∧ m' ≤ 60 := h.1
theorem RelS.r {m : Int} {t c : Int → Int} {m' : Int} {t' c' : Int → Int} (h : RelS m t c m' t' c') : ∀ i, 0 ≤ i → i < m' → (0 ≤ t' i ∧ t' i ≤ 20010) ∧ (1 ≤ c' i ∧ c' i ≤ 9) := h.2.1
theorem RelS.s {m : Int} {t c : Int → Int} {m' : Int} {t' c' : Int → Int} (h : RelS m t c m' t' c') : ∀ i j, 0 ≤ i → i < j → j < m' → t i ≤ t j := h.2.2.1
theorem RelS.p {m : Int} {t c : Int → Int} {m' : Int} {t' c' : Int → Int} (h : RelS m t c m' t' c') : ∃ π ρ : Int → Int, (∀ i, 0 ≤ i → i < m' → (0 ≤ π i ∧ π i < m') ∧ ρ (π i) = i ∧ t i = t' (π i) ∧ c i = c' (π i)) ∧ (∀ i, 0 ≤ i → i < m' → (0 ≤ ρ i ∧ ρ i < m') ∧ π (ρ i) = i) := h.2.2.2
theorem RelS.mk {m : Int} {t c : Int → Int} {m' : Int} {t' c' : Int → Int} (n : m = m' ∧ 0 ≤ m' ∧ m' ≤ 60) (r : ∀ i, 0 ≤ i → i < m' → (0 ≤ t' i ∧ t' i ≤ 20010) ∧ (1 ≤ c' i ∧ c' i ≤ 9)) (s : ∀ i j, 0 ≤ i → i < j → j < m' → t i ≤ t j) (p : ∃ π ρ : Int → Int, (∀ i, 0 ≤ i → i < m' → (0 ≤ π i ∧ π i < m') ∧ ρ (π i) = i ∧ t i = t' (π i) ∧ c i = c' (π i)) ∧ (∀ i, 0 ≤ i → i < m' → (0 ≤ ρ i ∧ ρ i < m') ∧ π (ρ i) = i)) : RelS m t c m' t' c' := ⟨n, r, s, p⟩

abbrev RelT (d : Int) (so le : Int) (row : Int → Int) (n : Int) (b k s a : Int → Int) (so' si' : Int) (el sh : Int → Int) : Prop := (so = so' ∧ 0 ≤ so' ∧ so' ≤ 5) ∧ (∀ i, 0 ≤ i → i < 100 → row i = el (100 * d + i)) ∧ (1 ≤ so' → so' ≤ 4 → le = si' ∧ 0 ≤ si' ∧ si' ≤ 100) ∧ (so' = 1 → ∀ i, 0 ≤ i → i < 100 → -128 ≤ el (100 * d + i) ∧ el (100 * d + i) ≤ 127) ∧ (so' = 5 → n = si' ∧ 0 ≤ si' ∧ si' ≤ 120) ∧ (so' = 5 → ∀ c, 0 ≤ c → c < si' → (b c = sh (480 * d + 4 * c) ∧ k c = sh (480 * d + 4 * c + 1) ∧ s c = sh (480 * d + 4 * c + 2) ∧ a c = sh (480 * d + 4 * c + 3)) ∧ (0 ≤ b c ∧ b c ≤ 20000) ∧ (0 ≤ k c ∧ k c < 12) ∧ (-1 ≤ s c ∧ s c < 6) ∧ (-4 ≤ a c ∧ a c ≤ 4))
theorem RelT.so {d : Int} {so le : Int} {row : Int → Int} {n : Int} {b k s a : Int → Int} {so' si' : Int} {el sh : Int → Int} (h : RelT d so le row n b k s a so' si' el sh) : so = so' ∧ 0 ≤ so' ∧ so' ≤ 5 := h.1
theorem RelT.row {d : Int} {so le : Int} {row : Int → Int} {n : Int} {b k s a : Int → Int} {so' si' : Int} {el sh : Int → Int} (h : RelT d so le row n b k s a so' si' el sh) : ∀ i, 0 ≤ i → i < 100 → row i = el (100 * d + i) := h.2.1
theorem RelT.le {d : Int} {so le : Int} {row : Int → Int} {n : Int} {b k s a : Int → Int} {so' si' : Int} {el sh : Int → Int} (h : RelT d so le row n b k s a so' si' el sh) : 1 ≤ so' → so' ≤ 4 → le = si' ∧ 0 ≤ si' ∧ si' ≤ 100 := h.2.2.1
theorem RelT.by' {d : Int} {so le : Int} {row : Int → Int} {n : Int} {b k s a : Int → Int} {so' si' : Int} {el sh : Int → Int} (h : RelT d so le row n b k s a so' si' el sh) : so' = 1 → ∀ i, 0 ≤ i → i < 100 → -128 ≤ el (100 * d + i) ∧ el (100 * d + i) ≤ 127 := h.2.2.2.1
theorem RelT.n {d : Int} {so le : Int} {row : Int → Int} {n : Int} {b k s a : Int → Int} {so' si' : Int} {el sh : Int → Int} (h : RelT d so le row n b k s a so' si' el sh) : so' = 5 → n = si' ∧ 0 ≤ si' ∧ si' ≤ 120 := h.2.2.2.2.1
theorem RelT.c {d : Int} {so le : Int} {row : Int → Int} {n : Int} {b k s a : Int → Int} {so' si' : Int} {el sh : Int → Int} (h : RelT d so le row n b k s a so' si' el sh) : so' = 5 → ∀ c, 0 ≤ c → c < si' → (b c = sh (480 * d + 4 * c) ∧ k c = sh (480 * d + 4 * c + 1) ∧ s c = sh (480 * d + 4 * c + 2) ∧ a c = sh (480 * d + 4 * c + 3)) ∧ (0 ≤ b c ∧ b c ≤ 20000) ∧ (0 ≤ k c ∧ k c < 12) ∧ (-1 ≤ s c ∧ s c < 6) ∧ (-4 ≤ a c ∧ a c ≤ 4) := h.2.2.2.2.2
theorem RelT.mk {d : Int} {soQ leQ : Int} {rowQ : Int → Int} {nQ : Int} {b k s a : Int → Int} {so' si' : Int} {el sh : Int → Int} (so : soQ = so' ∧ 0 ≤ so' ∧ so' ≤ 5) (row : ∀ i, 0 ≤ i → i < 100 → rowQ i = el (100 * d + i)) (le : 1 ≤ so' → so' ≤ 4 → leQ = si' ∧ 0 ≤ si' ∧ si' ≤ 100) (by' : so' = 1 → ∀ i, 0 ≤ i → i < 100 → -128 ≤ el (100 * d + i) ∧ el (100 * d + i) ≤ 127) (n : so' = 5 → nQ = si' ∧ 0 ≤ si' ∧ si' ≤ 120) (c : so' = 5 → ∀ c, 0 ≤ c → c < si' → (b c = sh (480 * d + 4 * c) ∧ k c = sh (480 * d + 4 * c + 1) ∧ s c = sh (480 * d + 4 * c + 2) ∧ a c = sh (480 * d + 4 * c + 3)) ∧ (0 ≤ b c ∧ b c ≤ 20000) ∧ (0 ≤ k c ∧ k c < 12) ∧ (-1 ≤ s c ∧ s c < 6) ∧ (-4 ≤ a c ∧ a c ≤ 4)) : RelT d soQ leQ rowQ nQ b k s a so' si' el sh := ⟨so, row, le, by', n, c⟩
abbrev RelTd (σ τ : Sg) (d : Int) : Prop := RelT d (σ (tpO d) 0) (σ (tpO d) 1) (σ (tpO d + 1)) (σ (tpO d + 2) 4) (σ (tpO d + 3)) (σ (tpO d + 4)) (σ (tpO d + 5)) (σ (tpO d + 6)) (τ 28 d) (τ 29 d) (τ 31) (τ 30)
abbrev Rel (N : Int) (σ τ : Sg) : Prop := (RelV σ (vw τ)) ∧ (σ 0 9 = τ 0 31 ∧ 0 ≤ τ 0 31 ∧ τ 0 31 ≤ 20) ∧ (σ 0 10 = τ 0 37 ∧ 0 ≤ τ 0 37 ∧ τ 0 37 ≤ N) ∧ (RelS (σ 54 6) (σ 55) (σ 56) (τ 0 36) (τ 26) (τ 27)) ∧ (∀ d, 0 ≤ d → d < 6 → RelTd σ τ d) ∧ (playInv τ)
theorem Rel.v {N : Int} {σ τ : Sg} (h : Rel N σ τ) : RelV σ (vw τ) := h.1
theorem Rel.gap {N : Int} {σ τ : Sg} (h : Rel N σ τ) : σ 0 9 = τ 0 31 ∧ 0 ≤ τ 0 31 ∧ τ 0 31 ≤ 20 := h.2.1
theorem Rel.ref {N : Int} {σ τ : Sg} (h : Rel N σ τ) : σ 0 10 = τ 0 37 ∧ 0 ≤ τ 0 37 ∧ τ 0 37 ≤ N := h.2.2.1
theorem Rel.seen {N : Int} {σ τ : Sg} (h : Rel N σ τ) : RelS (σ 54 6) (σ 55) (σ 56) (τ 0 36) (τ 26) (τ 27) := h.2.2.2.1
theorem Rel.tape {N : Int} {σ τ : Sg} (h : Rel N σ τ) : ∀ d, 0 ≤ d → d < 6 → RelTd σ τ d := h.2.2.2.2.1
theorem Rel.play {N : Int} {σ τ : Sg} (h : Rel N σ τ) : playInv τ := h.2.2.2.2.2
theorem Rel.mk {N : Int} {σ τ : Sg} (v : RelV σ (vw τ)) (gap : σ 0 9 = τ 0 31 ∧ 0 ≤ τ 0 31 ∧ τ 0 31 ≤ 20) (ref : σ 0 10 = τ 0 37 ∧ 0 ≤ τ 0 37 ∧ τ 0 37 ≤ N) (seen : RelS (σ 54 6) (σ 55) (σ 56) (τ 0 36) (τ 26) (τ 27)) (tape : ∀ d, 0 ≤ d → d < 6 → RelTd σ τ d) (play : playInv τ) : Rel N σ τ := ⟨v, gap, ref, seen, tape, play⟩
theorem Rel.mono {N M : Int} (R : Rel N σ τ) (h : N ≤ M) : Rel M σ τ := (Rel.mk (v := R.v) (gap := R.gap) (ref := ⟨R.ref.1, R.ref.2.1, by have := R.ref.2.2; omega⟩) (seen := R.seen) (tape := R.tape) (play := R.play))
theorem Rel.up (R : Rel N σ τ) : Rel (N + 1) σ τ := R.mono (by omega)
theorem tpO_ge {d : Int} : 59 ≤ tpO d := by unfold tpO; omega
theorem tpO_le {d : Int} (h : d < 6) : tpO d ≤ 94 := by unfold tpO; omega

theorem Rel_scr {σ' τ' : Sg} (R : Rel N σ τ) (hσ : ∀ j, ¬ (24 ≤ j ∧ j ≤ 39) → ¬ (50 ≤ j ∧ j ≤ 53) → j ≠ 57 → σ' j = σ j)
    (hτ : ∀ j, j ≠ 0 → ¬ (18 ≤ j ∧ j ≤ 21) → ¬ (32 ≤ j ∧ j ≤ 44) → τ' j = τ j) (h0 : ∀ p, 31 ≤ p → p ≤ 37 → τ' 0 p = τ 0 p) (hp : playInv τ') : Rel N σ' τ' := by
  have hv : vw τ' = vw τ := vw_congr (fun j hj => by
    refine hτ j ?_ ?_ ?_ <;> (simp only [List.mem_cons, List.not_mem_nil, or_false] at hj; omega)) (h0 _ (by omega) (by omega)) (h0 _ (by omega) (by omega)) (h0 _ (by omega) (by omega)) (h0 _ (by omega) (by omega))
  refine Rel.mk ?_ ?_ ?_ ?_ ?_ ?_
  · rw [hv]; exact RelV_congr R.v (fun j hj => by
      refine hσ j ?_ ?_ ?_ <;> (simp only [List.mem_cons, List.not_mem_nil, or_false] at hj; omega))
  · rw [hσ 0 (by omega) (by omega) (by omega), h0 31 (by omega) (by omega)]; exact R.gap
  · rw [hσ 0 (by omega) (by omega) (by omega), h0 37 (by omega) (by omega)]; exact R.ref
  · rw [hσ 54 (by omega) (by omega) (by omega), hσ 55 (by omega) (by omega) (by omega), hσ 56 (by omega) (by omega) (by omega), h0 36 (by omega) (by omega), hτ 26 (by omega) (by omega) (by omega), hτ 27 (by omega) (by omega) (by omega)]; exact R.seen
  · intro d h1 h2
    have := tpO_ge (d := d)
    unfold RelTd
    rw [hσ (tpO d) (by omega) (by omega) (by omega), hσ (tpO d + 1) (by omega) (by omega) (by omega), hσ (tpO d + 2) (by omega) (by omega) (by omega), hσ (tpO d + 3) (by omega) (by omega) (by omega), hσ (tpO d + 4) (by omega) (by omega) (by omega), hσ (tpO d + 5) (by omega) (by omega) (by omega), hσ (tpO d + 6) (by omega) (by omega) (by omega), hτ 28 (by omega) (by omega) (by omega), hτ 29 (by omega) (by omega) (by omega), hτ 30 (by omega) (by omega) (by omega), hτ 31 (by omega) (by omega) (by omega)]
    exact R.tape d h1 h2
  · exact hp

theorem Rel_view {σ' τ' : Sg} (R : Rel N σ τ) (hv : RelV σ' (vw τ')) (hσ : ∀ j, 54 ≤ j → σ' j = σ j) (h9 : σ' 0 9 = σ 0 9) (h10 : σ' 0 10 = σ 0 10)
    (hτ : ∀ j, 26 ≤ j → j ≤ 31 → τ' j = τ j) (h31 : τ' 0 31 = τ 0 31) (h36 : τ' 0 36 = τ 0 36) (h37 : τ' 0 37 = τ 0 37) (hp : playInv τ') : Rel N σ' τ' := by
  refine Rel.mk ?_ ?_ ?_ ?_ ?_ ?_
  · exact hv
  · rw [h9, h31]; exact R.gap
  · rw [h10, h37]; exact R.ref
  · rw [hσ 54 (by omega), hσ 55 (by omega), hσ 56 (by omega), h36, hτ 26 (by omega) (by omega), hτ 27 (by omega) (by omega)]; exact R.seen
  · intro d h1 h2
    have := tpO_ge (d := d)
    unfold RelTd
    rw [hσ (tpO d) (by omega), hσ (tpO d + 1) (by omega), hσ (tpO d + 2) (by omega), hσ (tpO d + 3) (by omega), hσ (tpO d + 4) (by omega), hσ (tpO d + 5) (by omega), hσ (tpO d + 6) (by omega), hτ 28 (by omega) (by omega), hτ 29 (by omega) (by omega), hτ 30 (by omega) (by omega), hτ 31 (by omega) (by omega)]
    exact R.tape d h1 h2
  · exact hp
theorem tape_congr {σ' τ' : Sg} (H : ∀ d, 0 ≤ d → d < 6 → RelTd σ τ d) (hσ : ∀ j, 59 ≤ j → σ' j = σ j) (hτ : ∀ j, 28 ≤ j → j ≤ 31 → τ' j = τ j) : ∀ d, 0 ≤ d → d < 6 → RelTd σ' τ' d := by
  intro d h1 h2
  have := tpO_ge (d := d)
  unfold RelTd
  rw [hσ (tpO d) (by omega), hσ (tpO d + 1) (by omega), hσ (tpO d + 2) (by omega), hσ (tpO d + 3) (by omega), hσ (tpO d + 4) (by omega), hσ (tpO d + 5) (by omega), hσ (tpO d + 6) (by omega), hτ 28 (by omega) (by omega), hτ 29 (by omega) (by omega), hτ 30 (by omega) (by omega), hτ 31 (by omega) (by omega)]
  exact H d h1 h2
theorem Rel_54 (R : Rel N σ τ) : Rel N σ (put τ 0 54 0) := by
  refine Rel_scr R (fun _ _ _ _ => rfl) (fun j h _ _ => put_ne h) (fun p h1 h2 => put_F (by omega)) (.inl (put_T rfl))

def Mt (f g : Sg → Option (Int × Sg)) : Prop := ∀ N σ τ, Rel N σ τ → N ≤ 1000000 → ∃ v σ' τ', f σ = some (v, σ') ∧ g τ = some (v, τ') ∧ Rel (N + 1) σ' τ'
def Mp (f g : Sg → Option Int) : Prop := ∀ N σ τ, Rel N σ τ → ∃ v, f σ = some v ∧ g τ = some v
theorem no_54 {f : Int} (R : Rel N σ τ) : ∃ v σ' τ', some (f, σ) = some (v, σ') ∧ some (f, put τ 0 54 0) = some (v, τ') ∧ Rel (N + 1) σ' τ' := ⟨f, σ, _, rfl, rfl, (Rel_54 R).up⟩
theorem no_ch {f : Int} (R : Rel N σ τ) : ∃ v σ' τ', some (f, σ) = some (v, σ') ∧ some (f, τ) = some (v, τ') ∧ Rel (N + 1) σ' τ' := ⟨f, σ, _, rfl, rfl, R.up⟩
theorem m_apart (g : Int) : Mt (fX11_apart g) (fX12_apart g) := by
  intro N σ τ R hN
  unfold fX11_apart fX12_apart
  by_cases h : 0 ≤ g ∧ g ≤ 20
  · (try simp (disch := omega) only [↓ck_e, ↓rd_e, ↓wr_e, ↓wrB_e, ↓wrZ_e, ↓dv_e, ↓md_e, ↓fdv_e, ↓cpy_e, ↓filB_e, ↓filI_e, ↓filL_e, ↓st1_e, ↓bnd_e, ↓iT, ↓iF, ↓reduceIte, put_ne, put_T, put_F, isIn_T, isIn_F])
    rw [R.gap.1]
    refine ⟨_, _, _, rfl, rfl, ?_⟩
    exact Rel.up (Rel.mk (v := RelV_congr R.v (fun j hj => put_ne (ne_of_mem hj (by decide)))) (gap := ⟨by rw [put_T rfl, put_T rfl], by rw [put_T rfl]; exact h⟩) (ref := R.ref) (seen := R.seen) (tape := tape_congr R.tape (fun j h => put_ne (by omega)) (fun j h _ => put_ne (by omega))) (play := R.play))
  · by_cases h0 : g < 0
    · (try simp (disch := omega) only [↓ck_e, ↓rd_e, ↓wr_e, ↓wrB_e, ↓wrZ_e, ↓dv_e, ↓md_e, ↓fdv_e, ↓cpy_e, ↓filB_e, ↓filI_e, ↓filL_e, ↓st1_e, ↓bnd_e, ↓iT, ↓iF, ↓reduceIte, put_ne, put_T, put_F, isIn_T, isIn_F]); exact no_ch R
    · (try simp (disch := omega) only [↓ck_e, ↓rd_e, ↓wr_e, ↓wrB_e, ↓wrZ_e, ↓dv_e, ↓md_e, ↓fdv_e, ↓cpy_e, ↓filB_e, ↓filI_e, ↓filL_e, ↓st1_e, ↓bnd_e, ↓iT, ↓iF, ↓reduceIte, put_ne, put_T, put_F, isIn_T, isIn_F]); exact no_ch R
end

section
set_option linter.unusedVariables false
variable {σ τ : Sg} {V : Vw} {N : Int}
theorem toB_all : ∀ x : Fin 256, toB ((x.val : Int) - 128) = (x.val : Int) - 128 := by decide +kernel
theorem toB_e {x : Int} (h0 : -128 ≤ x) (h1 : x ≤ 127) : toB x = x := by
  have := toB_all ⟨(x + 128).toNat, by omega⟩
  simp only [Int.toNat_of_nonneg (show 0 ≤ x + 128 by omega)] at this
  rw [show x + 128 - 128 = x by omega] at this
  exact this
theorem m_cell (x y w : Int) : Mt (fX11_cell x y w) (fX12_cell x y w) := by
  intro N σ τ R hN
  unfold fX11_cell fX12_cell
  by_cases hx : 0 ≤ x ∧ x < 32
  · by_cases hy : 0 ≤ y ∧ y < 32
    · by_cases hw : 0 ≤ w ∧ w ≤ 2
      · (try simp (disch := omega) only [↓ck_e, ↓rd_e, ↓wr_e, ↓wrB_e, ↓wrZ_e, ↓dv_e, ↓md_e, ↓fdv_e, ↓cpy_e, ↓filB_e, ↓filI_e, ↓filL_e, ↓st1_e, ↓bnd_e, ↓iT, ↓iF, ↓reduceIte, put_ne, put_T, put_F, isIn_T, isIn_F])
        rw [cc_ground R.v.toRelN hx hy]
        have : fX8_setGround x y w σ = some (put σ 2 (32 * y + x) w) := by
          unfold fX8_setGround; (try simp (disch := omega) only [↓ck_e, ↓rd_e, ↓wr_e, ↓wrB_e, ↓wrZ_e, ↓dv_e, ↓md_e, ↓fdv_e, ↓cpy_e, ↓filB_e, ↓filI_e, ↓filL_e, ↓st1_e, ↓bnd_e, ↓iT, ↓iF, ↓reduceIte, put_ne, put_T, put_F, isIn_T, isIn_F]); rw [toB_e (by omega) (by omega)]; (try simp (disch := omega) only [↓ck_e, ↓rd_e, ↓wr_e, ↓wrB_e, ↓wrZ_e, ↓dv_e, ↓md_e, ↓fdv_e, ↓cpy_e, ↓filB_e, ↓filI_e, ↓filL_e, ↓st1_e, ↓bnd_e, ↓iT, ↓iF, ↓reduceIte, put_ne, put_T, put_F, isIn_T, isIn_F])
        rw [this]; (try simp (disch := omega) only [↓ck_e, ↓rd_e, ↓wr_e, ↓wrB_e, ↓wrZ_e, ↓dv_e, ↓md_e, ↓fdv_e, ↓cpy_e, ↓filB_e, ↓filI_e, ↓filL_e, ↓st1_e, ↓bnd_e, ↓iT, ↓iF, ↓reduceIte, put_ne, put_T, put_F, isIn_T, isIn_F])
        refine ⟨_, _, _, rfl, rfl, ?_⟩
        refine Rel.up (Rel_view R ?_ (fun j h => put_ne (by omega)) (by rw [put_ne (by decide)]) (by rw [put_ne (by decide)]) (fun j h _ => by rw [put_ne (by omega), put_ne (by omega)]) (by rw [put_ne (by decide), put_F (by decide)]) (by rw [put_ne (by decide), put_F (by decide)]) (by rw [put_ne (by decide), put_F (by decide)]) (.inl (by rw [put_ne (by decide), put_T rfl])))
        have v := R.v
        exact (RelV.all (g := fun i h0 h1 => by
            have := v.g i h0 h1
            rw [put_at]; show (if i = 32 * y + x then w else σ 2 i) = put (put τ 0 54 0) 1 (32 * y + x) w 1 i ∧ _
            dsimp only [vw]
            rw [put_at, put_ne (by decide)]
            by_cases e : i = 32 * y + x
            · rw [iT e, iT e]; omega
            · rw [iF e, iF e]; exact this) (k := v.k) (b := v.b) (d := v.d) (n := v.n) (c := v.c) (m := v.m) (r := v.r) (h := v.h) (f := fun k w t a b => v.f k w t a b))
      · by_cases hw0 : w < 0
        · (try simp (disch := omega) only [↓ck_e, ↓rd_e, ↓wr_e, ↓wrB_e, ↓wrZ_e, ↓dv_e, ↓md_e, ↓fdv_e, ↓cpy_e, ↓filB_e, ↓filI_e, ↓filL_e, ↓st1_e, ↓bnd_e, ↓iT, ↓iF, ↓reduceIte, put_ne, put_T, put_F, isIn_T, isIn_F]); exact no_54 R
        · (try simp (disch := omega) only [↓ck_e, ↓rd_e, ↓wr_e, ↓wrB_e, ↓wrZ_e, ↓dv_e, ↓md_e, ↓fdv_e, ↓cpy_e, ↓filB_e, ↓filI_e, ↓filL_e, ↓st1_e, ↓bnd_e, ↓iT, ↓iF, ↓reduceIte, put_ne, put_T, put_F, isIn_T, isIn_F]); exact no_54 R
    · by_cases h0 : y < 0
      · (try simp (disch := omega) only [↓ck_e, ↓rd_e, ↓wr_e, ↓wrB_e, ↓wrZ_e, ↓dv_e, ↓md_e, ↓fdv_e, ↓cpy_e, ↓filB_e, ↓filI_e, ↓filL_e, ↓st1_e, ↓bnd_e, ↓iT, ↓iF, ↓reduceIte, put_ne, put_T, put_F, isIn_T, isIn_F]); exact no_54 R
      · (try simp (disch := omega) only [↓ck_e, ↓rd_e, ↓wr_e, ↓wrB_e, ↓wrZ_e, ↓dv_e, ↓md_e, ↓fdv_e, ↓cpy_e, ↓filB_e, ↓filI_e, ↓filL_e, ↓st1_e, ↓bnd_e, ↓iT, ↓iF, ↓reduceIte, put_ne, put_T, put_F, isIn_T, isIn_F]); exact no_54 R
  · by_cases h0 : x < 0
    · (try simp (disch := omega) only [↓ck_e, ↓rd_e, ↓wr_e, ↓wrB_e, ↓wrZ_e, ↓dv_e, ↓md_e, ↓fdv_e, ↓cpy_e, ↓filB_e, ↓filI_e, ↓filL_e, ↓st1_e, ↓bnd_e, ↓iT, ↓iF, ↓reduceIte, put_ne, put_T, put_F, isIn_T, isIn_F]); exact no_54 R
    · (try simp (disch := omega) only [↓ck_e, ↓rd_e, ↓wr_e, ↓wrB_e, ↓wrZ_e, ↓dv_e, ↓md_e, ↓fdv_e, ↓cpy_e, ↓filB_e, ↓filI_e, ↓filL_e, ↓st1_e, ↓bnd_e, ↓iT, ↓iF, ↓reduceIte, put_ne, put_T, put_F, isIn_T, isIn_F]); exact no_54 R
theorem m_barge (s x y c : Int) : Mt (fX11_barge s x y c) (fX12_barge s x y c) := by
  intro N σ τ R hN
  unfold fX11_barge fX12_barge
  by_cases hs : 0 ≤ s ∧ s < 6
  · by_cases hx : 0 ≤ x ∧ x < 32
    · by_cases hy : 0 ≤ y ∧ y < 32
      · by_cases hc : 1 ≤ c ∧ c ≤ 40
        · have : fX8_tellBarge s x y c σ = some (put (put (put σ 3 s x) 4 s y) 5 s c) := by
            unfold fX8_tellBarge; (try simp (disch := omega) only [↓ck_e, ↓rd_e, ↓wr_e, ↓wrB_e, ↓wrZ_e, ↓dv_e, ↓md_e, ↓fdv_e, ↓cpy_e, ↓filB_e, ↓filI_e, ↓filL_e, ↓st1_e, ↓bnd_e, ↓iT, ↓iF, ↓reduceIte, put_ne, put_T, put_F, isIn_T, isIn_F])
          (try simp (disch := omega) only [↓ck_e, ↓rd_e, ↓wr_e, ↓wrB_e, ↓wrZ_e, ↓dv_e, ↓md_e, ↓fdv_e, ↓cpy_e, ↓filB_e, ↓filI_e, ↓filL_e, ↓st1_e, ↓bnd_e, ↓iT, ↓iF, ↓reduceIte, put_ne, put_T, put_F, isIn_T, isIn_F])
          rw [this]; (try simp (disch := omega) only [↓ck_e, ↓rd_e, ↓wr_e, ↓wrB_e, ↓wrZ_e, ↓dv_e, ↓md_e, ↓fdv_e, ↓cpy_e, ↓filB_e, ↓filI_e, ↓filL_e, ↓st1_e, ↓bnd_e, ↓iT, ↓iF, ↓reduceIte, put_ne, put_T, put_F, isIn_T, isIn_F])
          refine ⟨_, _, _, rfl, rfl, ?_⟩
          refine Rel.up (Rel_view R ?_ (fun j h => by rw [put_ne (by omega), put_ne (by omega), put_ne (by omega)]) (by rw [put_ne (by decide), put_ne (by decide), put_ne (by decide)]) (by rw [put_ne (by decide), put_ne (by decide), put_ne (by decide)]) (fun j h _ => by rw [put_ne (by omega), put_ne (by omega), put_ne (by omega), put_ne (by omega)]) (by rw [put_ne (by decide), put_ne (by decide), put_ne (by decide), put_F (by decide)]) (by rw [put_ne (by decide), put_ne (by decide), put_ne (by decide), put_F (by decide)]) (by rw [put_ne (by decide), put_ne (by decide), put_ne (by decide), put_F (by decide)]) (.inl (by rw [put_ne (by decide), put_ne (by decide), put_ne (by decide), put_T rfl])))
          have v := R.v
          exact (RelV.all (g := v.g) (k := v.k) (b := fun i h0 h1 => by
              have := v.b i h0 h1
              (simp (disch := decide) only [put_ne, put_at, vw])
              by_cases e : i = s
              · simp only [if_pos e, true_and]; omega
              · simp only [if_neg e]; exact this) (d := v.d) (n := v.n) (c := fun i h0 h1 => by
              obtain ⟨a1, a2, a3, a4⟩ := v.c i h0 h1
              refine ⟨a1, a2, ?_, a4⟩
              rcases a3 with a3 | a3
              · exact .inl a3
              · right
                refine ⟨a3.1, ?_⟩
                have := a3.2
                show 0 < put (put (put (put τ 0 54 0) 8 s _) 9 s _) 10 s c 10 (τ 15 i)
                rw [put_at]
                by_cases e : τ 15 i = s
                · rw [iT e]; omega
                · rw [iF e]; exact this) (m := v.m) (r := v.r) (h := v.h) (f := fun k w t a b => v.f k w t a b))
        · by_cases h0 : c < 1
          · (try simp (disch := omega) only [↓ck_e, ↓rd_e, ↓wr_e, ↓wrB_e, ↓wrZ_e, ↓dv_e, ↓md_e, ↓fdv_e, ↓cpy_e, ↓filB_e, ↓filI_e, ↓filL_e, ↓st1_e, ↓bnd_e, ↓iT, ↓iF, ↓reduceIte, put_ne, put_T, put_F, isIn_T, isIn_F]); exact no_54 R
          · (try simp (disch := omega) only [↓ck_e, ↓rd_e, ↓wr_e, ↓wrB_e, ↓wrZ_e, ↓dv_e, ↓md_e, ↓fdv_e, ↓cpy_e, ↓filB_e, ↓filI_e, ↓filL_e, ↓st1_e, ↓bnd_e, ↓iT, ↓iF, ↓reduceIte, put_ne, put_T, put_F, isIn_T, isIn_F]); exact no_54 R
      · by_cases h0 : y < 0
        · (try simp (disch := omega) only [↓ck_e, ↓rd_e, ↓wr_e, ↓wrB_e, ↓wrZ_e, ↓dv_e, ↓md_e, ↓fdv_e, ↓cpy_e, ↓filB_e, ↓filI_e, ↓filL_e, ↓st1_e, ↓bnd_e, ↓iT, ↓iF, ↓reduceIte, put_ne, put_T, put_F, isIn_T, isIn_F]); exact no_54 R
        · (try simp (disch := omega) only [↓ck_e, ↓rd_e, ↓wr_e, ↓wrB_e, ↓wrZ_e, ↓dv_e, ↓md_e, ↓fdv_e, ↓cpy_e, ↓filB_e, ↓filI_e, ↓filL_e, ↓st1_e, ↓bnd_e, ↓iT, ↓iF, ↓reduceIte, put_ne, put_T, put_F, isIn_T, isIn_F]); exact no_54 R
    · by_cases h0 : x < 0
      · (try simp (disch := omega) only [↓ck_e, ↓rd_e, ↓wr_e, ↓wrB_e, ↓wrZ_e, ↓dv_e, ↓md_e, ↓fdv_e, ↓cpy_e, ↓filB_e, ↓filI_e, ↓filL_e, ↓st1_e, ↓bnd_e, ↓iT, ↓iF, ↓reduceIte, put_ne, put_T, put_F, isIn_T, isIn_F]); exact no_54 R
      · (try simp (disch := omega) only [↓ck_e, ↓rd_e, ↓wr_e, ↓wrB_e, ↓wrZ_e, ↓dv_e, ↓md_e, ↓fdv_e, ↓cpy_e, ↓filB_e, ↓filI_e, ↓filL_e, ↓st1_e, ↓bnd_e, ↓iT, ↓iF, ↓reduceIte, put_ne, put_T, put_F, isIn_T, isIn_F]); exact no_54 R
  · by_cases h0 : s < 0
    · (try simp (disch := omega) only [↓ck_e, ↓rd_e, ↓wr_e, ↓wrB_e, ↓wrZ_e, ↓dv_e, ↓md_e, ↓fdv_e, ↓cpy_e, ↓filB_e, ↓filI_e, ↓filL_e, ↓st1_e, ↓bnd_e, ↓iT, ↓iF, ↓reduceIte, put_ne, put_T, put_F, isIn_T, isIn_F]); exact no_54 R
    · (try simp (disch := omega) only [↓ck_e, ↓rd_e, ↓wr_e, ↓wrB_e, ↓wrZ_e, ↓dv_e, ↓md_e, ↓fdv_e, ↓cpy_e, ↓filB_e, ↓filI_e, ↓filL_e, ↓st1_e, ↓bnd_e, ↓iT, ↓iF, ↓reduceIte, put_ne, put_T, put_F, isIn_T, isIn_F]); exact no_54 R
theorem m_may (s k : Int) : Mp (fX11_may s k) (fX12_may s k) := by
  intro N σ τ R
  have v := R.v.toRelN
  unfold fX11_may fX12_may
  rw [cc_isBarge v, rr_isBarge]; simp only [bnd_e]
  by_cases h1 : isB (vw τ) s
  · rw [bi_T h1, iF (by omega), iF (by omega), cc_told v, rr_isKind]; simp only [bnd_e]
    by_cases h2 : told (vw τ) k
    · rw [bi_T h2, iF (by omega), iF (by omega), cc_holds v h1 h2, rr_holds v h1 h2]
      simp only [bnd_e]; split <;> exact ⟨_, rfl, rfl⟩
    · rw [bi_F h2]; exact ⟨_, rfl, rfl⟩
  · rw [bi_F h1]; exact ⟨_, rfl, rfl⟩
def lightV (V : Vw) (k s a w : Int) : Prop := told V k ∧ isB V s ∧ (-4 ≤ a ∧ a ≤ 4) ∧ (0 ≤ w ∧ w < 4)
theorem cc_isAngle {a : Int} : fX11_isAngle a σ = some (bi (-4 ≤ a ∧ a ≤ 4)) := by
  unfold fX11_isAngle
  by_cases h : -4 ≤ a ∧ a ≤ 4
  · rw [bi_T h]; (try simp (disch := omega) only [↓ck_e, ↓rd_e, ↓wr_e, ↓wrB_e, ↓wrZ_e, ↓dv_e, ↓md_e, ↓fdv_e, ↓cpy_e, ↓filB_e, ↓filI_e, ↓filL_e, ↓st1_e, ↓bnd_e, ↓iT, ↓iF, ↓reduceIte, put_ne, put_T, put_F, isIn_T, isIn_F])
  · rw [bi_F h]
    by_cases h0 : a < -4 <;> (try simp (disch := omega) only [↓ck_e, ↓rd_e, ↓wr_e, ↓wrB_e, ↓wrZ_e, ↓dv_e, ↓md_e, ↓fdv_e, ↓cpy_e, ↓filB_e, ↓filI_e, ↓filL_e, ↓st1_e, ↓bnd_e, ↓iT, ↓iF, ↓reduceIte, put_ne, put_T, put_F, isIn_T, isIn_F])
theorem isIn_b {x a b : Int} : fX12_isIn x a b τ = some (bi (a ≤ x ∧ x ≤ b)) := by
  by_cases h : a ≤ x ∧ x ≤ b
  · rw [bi_T h, isIn_T h.1 h.2]
  · rw [bi_F h, isIn_F h]
theorem cc_isLight (R : RelN σ V) {k s a w : Int} : fX11_isLight k s a w σ = some (bi (lightV V k s a w)) := by
  unfold fX11_isLight
  rw [cc_told R]; simp only [bnd_e]
  by_cases h1 : told V k
  · rw [bi_T h1, iF (by omega), cc_isBarge R]; simp only [bnd_e]
    by_cases h2 : isB V s
    · rw [bi_T h2, iF (by omega), cc_isAngle]; simp only [bnd_e]
      by_cases h3 : -4 ≤ a ∧ a ≤ 4
      · rw [bi_T h3, iF (by omega)]
        by_cases h4 : 0 ≤ w ∧ w < 4
        · rw [bi_T ⟨h1, h2, h3, h4⟩]; (try simp (disch := omega) only [↓ck_e, ↓rd_e, ↓wr_e, ↓wrB_e, ↓wrZ_e, ↓dv_e, ↓md_e, ↓fdv_e, ↓cpy_e, ↓filB_e, ↓filI_e, ↓filL_e, ↓st1_e, ↓bnd_e, ↓iT, ↓iF, ↓reduceIte, put_ne, put_T, put_F, isIn_T, isIn_F])
        · rw [bi_F (fun x => h4 x.2.2.2)]
          by_cases h5 : w < 0 <;> (try simp (disch := omega) only [↓ck_e, ↓rd_e, ↓wr_e, ↓wrB_e, ↓wrZ_e, ↓dv_e, ↓md_e, ↓fdv_e, ↓cpy_e, ↓filB_e, ↓filI_e, ↓filL_e, ↓st1_e, ↓bnd_e, ↓iT, ↓iF, ↓reduceIte, put_ne, put_T, put_F, isIn_T, isIn_F])
      · rw [bi_F h3, bi_F (fun x => h3 x.2.2.1)]; rfl
    · rw [bi_F h2, bi_F (fun x => h2 x.2.1)]; rfl
  · rw [bi_F h1, bi_F (fun x => h1 x.1)]; rfl
theorem rr_isLight {k s a w : Int} : fX12_isLight k s a w τ = some (bi (lightV (vw τ) k s a w)) := by
  unfold fX12_isLight
  rw [rr_isKind]; simp only [bnd_e]
  by_cases h1 : told (vw τ) k
  · rw [bi_T h1, iF (by omega), rr_isBarge]; simp only [bnd_e]
    by_cases h2 : isB (vw τ) s
    · rw [bi_T h2, iF (by omega), isIn_b]; simp only [bnd_e]
      by_cases h3 : -4 ≤ a ∧ a ≤ 4
      · rw [bi_T h3, iF (by omega)]
        by_cases h4 : 0 ≤ w ∧ w < 4
        · rw [bi_T ⟨h1, h2, h3, h4⟩]; (try simp (disch := omega) only [↓ck_e, ↓rd_e, ↓wr_e, ↓wrB_e, ↓wrZ_e, ↓dv_e, ↓md_e, ↓fdv_e, ↓cpy_e, ↓filB_e, ↓filI_e, ↓filL_e, ↓st1_e, ↓bnd_e, ↓iT, ↓iF, ↓reduceIte, put_ne, put_T, put_F, isIn_T, isIn_F])
        · rw [bi_F (fun x => h4 x.2.2.2)]; (try simp (disch := omega) only [↓ck_e, ↓rd_e, ↓wr_e, ↓wrB_e, ↓wrZ_e, ↓dv_e, ↓md_e, ↓fdv_e, ↓cpy_e, ↓filB_e, ↓filI_e, ↓filL_e, ↓st1_e, ↓bnd_e, ↓iT, ↓iF, ↓reduceIte, put_ne, put_T, put_F, isIn_T, isIn_F])
      · rw [bi_F h3, bi_F (fun x => h3 x.2.2.1)]; rfl
    · rw [bi_F h2, bi_F (fun x => h2 x.2.1)]; rfl
  · rw [bi_F h1, bi_F (fun x => h1 x.1)]; rfl
theorem m_safe (k s a w : Int) : Mp (fX11_safe k s a w) (fX12_safe k s a w) := by
  intro N σ τ R
  unfold fX11_safe fX12_safe
  rw [cc_isLight R.v.toRelN, rr_isLight]; simp only [bnd_e]
  by_cases h : lightV (vw τ) k s a w
  · obtain ⟨h1, h2, h3, h4⟩ := h
    rw [bi_T ⟨h1, h2, h3, h4⟩, iF (by omega), iF (by omega), cc_safe R.v h1 h2 h3 h4, rr_safe R.v.toRelN h1 h2 h3 h4]
    simp only [bnd_e]; split <;> exact ⟨_, rfl, rfl⟩
  · rw [bi_F h]; exact ⟨_, rfl, rfl⟩
theorem m_hot (k s a w i : Int) : Mp (fX11_hot k s a w i) (fX12_hot k s a w i) := by
  intro N σ τ R
  unfold fX11_hot fX12_hot
  rw [cc_isLight R.v.toRelN, rr_isLight]; simp only [bnd_e]
  by_cases h : lightV (vw τ) k s a w
  · obtain ⟨h1, h2, h3, h4⟩ := h
    rw [bi_T ⟨h1, h2, h3, h4⟩]
    by_cases hi : 0 ≤ i ∧ i < 5
    · have hk1 := h1.1
      (try simp (disch := omega) only [↓ck_e, ↓rd_e, ↓wr_e, ↓wrB_e, ↓wrZ_e, ↓dv_e, ↓md_e, ↓fdv_e, ↓cpy_e, ↓filB_e, ↓filI_e, ↓filL_e, ↓st1_e, ↓bnd_e, ↓iT, ↓iF, ↓reduceIte, put_ne, put_T, put_F, isIn_T, isIn_F])
      rw [slot_e hk1 h4 (by omega)]; (try simp (disch := omega) only [↓ck_e, ↓rd_e, ↓wr_e, ↓wrB_e, ↓wrZ_e, ↓dv_e, ↓md_e, ↓fdv_e, ↓cpy_e, ↓filB_e, ↓filI_e, ↓filL_e, ↓st1_e, ↓bnd_e, ↓iT, ↓iF, ↓reduceIte, put_ne, put_T, put_F, isIn_T, isIn_F])
      rw [cc_landing R.v.toRelN (q := (k * 4 + w) * 2 + 0) (u := 10) h1 h2 h3 h4 (.inl rfl) (by omega) (R.v.f k w h1 h4.1 h4.2).1, rr_lands R.v.toRelN h1 h2 h3 h4 (.inl rfl)]
      exact ⟨_, rfl, rfl⟩
    · by_cases h0 : i < 0
      · (try simp (disch := omega) only [↓ck_e, ↓rd_e, ↓wr_e, ↓wrB_e, ↓wrZ_e, ↓dv_e, ↓md_e, ↓fdv_e, ↓cpy_e, ↓filB_e, ↓filI_e, ↓filL_e, ↓st1_e, ↓bnd_e, ↓iT, ↓iF, ↓reduceIte, put_ne, put_T, put_F, isIn_T, isIn_F]); exact ⟨_, rfl, rfl⟩
      · (try simp (disch := omega) only [↓ck_e, ↓rd_e, ↓wr_e, ↓wrB_e, ↓wrZ_e, ↓dv_e, ↓md_e, ↓fdv_e, ↓cpy_e, ↓filB_e, ↓filI_e, ↓filL_e, ↓st1_e, ↓bnd_e, ↓iT, ↓iF, ↓reduceIte, put_ne, put_T, put_F, isIn_T, isIn_F]); exact ⟨_, rfl, rfl⟩
  · rw [bi_F h]; exact ⟨_, rfl, rfl⟩
theorem m_knows (t : Int) : Mp (fX11_knows t) (fX12_knows t) := by
  intro N σ τ R
  unfold fX11_knows fX12_knows fX11_isTick
  by_cases h : 0 ≤ t ∧ t ≤ 20000
  · (try simp (disch := omega) only [↓ck_e, ↓rd_e, ↓wr_e, ↓wrB_e, ↓wrZ_e, ↓dv_e, ↓md_e, ↓fdv_e, ↓cpy_e, ↓filB_e, ↓filI_e, ↓filL_e, ↓st1_e, ↓bnd_e, ↓iT, ↓iF, ↓reduceIte, put_ne, put_T, put_F, isIn_T, isIn_F])
    rw [cc_known R.v.toRelN, rr_known R.v.toRelN]; exact ⟨_, rfl, rfl⟩
  · by_cases h0 : t < 0
    · (try simp (disch := omega) only [↓ck_e, ↓rd_e, ↓wr_e, ↓wrB_e, ↓wrZ_e, ↓dv_e, ↓md_e, ↓fdv_e, ↓cpy_e, ↓filB_e, ↓filI_e, ↓filL_e, ↓st1_e, ↓bnd_e, ↓iT, ↓iF, ↓reduceIte, put_ne, put_T, put_F, isIn_T, isIn_F]); exact ⟨_, rfl, rfl⟩
    · (try simp (disch := omega) only [↓ck_e, ↓rd_e, ↓wr_e, ↓wrB_e, ↓wrZ_e, ↓dv_e, ↓md_e, ↓fdv_e, ↓cpy_e, ↓filB_e, ↓filI_e, ↓filL_e, ↓st1_e, ↓bnd_e, ↓iT, ↓iF, ↓reduceIte, put_ne, put_T, put_F, isIn_T, isIn_F]); exact ⟨_, rfl, rfl⟩
end

section
set_option linter.unusedVariables false
variable {σ τ : Sg} {V : Vw} {N : Int}
theorem cc_asSaid {l h s r : Int} : fX2_isAsSaid l h s r σ = some (bi ((1 ≤ l ∧ l ≤ 60) ∧ (10 ≤ h ∧ h ≤ 300) ∧ (0 ≤ s ∧ s ≤ 60) ∧ (0 ≤ r ∧ (1 ≤ r / 1000 ∧ r / 1000 ≤ 99) ∧ (1 ≤ r % 1000 / 10 ∧ r % 1000 / 10 ≤ 9) ∧ r % 10 ≤ 5))) := by
  unfold fX2_isAsSaid
  by_cases c1 : 1 ≤ l ∧ l ≤ 60
  · by_cases c2 : 10 ≤ h ∧ h ≤ 300
    · by_cases c3 : 0 ≤ s ∧ s ≤ 60
      · by_cases c4 : 0 ≤ r
        · by_cases c5 : 1 ≤ r / 1000 ∧ r / 1000 ≤ 99
          · by_cases c6 : 1 ≤ r % 1000 / 10 ∧ r % 1000 / 10 ≤ 9
            · by_cases c7 : r % 10 ≤ 5
              · rw [bi_T ⟨c1, c2, c3, c4, c5, c6, c7⟩]; (try simp (disch := omega) only [↓ck_e, ↓rd_e, ↓wr_e, ↓wrB_e, ↓wrZ_e, ↓dv_e, ↓md_e, ↓fdv_e, ↓cpy_e, ↓filB_e, ↓filI_e, ↓filL_e, ↓st1_e, ↓bnd_e, ↓iT, ↓iF, ↓reduceIte, put_ne, put_T, put_F, isIn_T, isIn_F])
              · rw [bi_F (fun x => c7 x.2.2.2.2.2.2)]; (try simp (disch := omega) only [↓ck_e, ↓rd_e, ↓wr_e, ↓wrB_e, ↓wrZ_e, ↓dv_e, ↓md_e, ↓fdv_e, ↓cpy_e, ↓filB_e, ↓filI_e, ↓filL_e, ↓st1_e, ↓bnd_e, ↓iT, ↓iF, ↓reduceIte, put_ne, put_T, put_F, isIn_T, isIn_F])
            · rw [bi_F (fun x => c6 x.2.2.2.2.2.1)]
              by_cases d : r % 1000 / 10 < 1 <;> (try simp (disch := omega) only [↓ck_e, ↓rd_e, ↓wr_e, ↓wrB_e, ↓wrZ_e, ↓dv_e, ↓md_e, ↓fdv_e, ↓cpy_e, ↓filB_e, ↓filI_e, ↓filL_e, ↓st1_e, ↓bnd_e, ↓iT, ↓iF, ↓reduceIte, put_ne, put_T, put_F, isIn_T, isIn_F])
          · rw [bi_F (fun x => c5 x.2.2.2.2.1)]
            by_cases d : r / 1000 < 1 <;> (try simp (disch := omega) only [↓ck_e, ↓rd_e, ↓wr_e, ↓wrB_e, ↓wrZ_e, ↓dv_e, ↓md_e, ↓fdv_e, ↓cpy_e, ↓filB_e, ↓filI_e, ↓filL_e, ↓st1_e, ↓bnd_e, ↓iT, ↓iF, ↓reduceIte, put_ne, put_T, put_F, isIn_T, isIn_F])
        · rw [bi_F (fun x => c4 x.2.2.2.1)]; (try simp (disch := omega) only [↓ck_e, ↓rd_e, ↓wr_e, ↓wrB_e, ↓wrZ_e, ↓dv_e, ↓md_e, ↓fdv_e, ↓cpy_e, ↓filB_e, ↓filI_e, ↓filL_e, ↓st1_e, ↓bnd_e, ↓iT, ↓iF, ↓reduceIte, put_ne, put_T, put_F, isIn_T, isIn_F])
      · rw [bi_F (fun x => c3 x.2.2.1)]
        by_cases d : s < 0 <;> (try simp (disch := omega) only [↓ck_e, ↓rd_e, ↓wr_e, ↓wrB_e, ↓wrZ_e, ↓dv_e, ↓md_e, ↓fdv_e, ↓cpy_e, ↓filB_e, ↓filI_e, ↓filL_e, ↓st1_e, ↓bnd_e, ↓iT, ↓iF, ↓reduceIte, put_ne, put_T, put_F, isIn_T, isIn_F])
    · rw [bi_F (fun x => c2 x.2.1)]
      by_cases d : h < 10 <;> (try simp (disch := omega) only [↓ck_e, ↓rd_e, ↓wr_e, ↓wrB_e, ↓wrZ_e, ↓dv_e, ↓md_e, ↓fdv_e, ↓cpy_e, ↓filB_e, ↓filI_e, ↓filL_e, ↓st1_e, ↓bnd_e, ↓iT, ↓iF, ↓reduceIte, put_ne, put_T, put_F, isIn_T, isIn_F])
  · rw [bi_F (fun x => c1 x.1)]
    by_cases d : l < 1 <;> (try simp (disch := omega) only [↓ck_e, ↓rd_e, ↓wr_e, ↓wrB_e, ↓wrZ_e, ↓dv_e, ↓md_e, ↓fdv_e, ↓cpy_e, ↓filB_e, ↓filI_e, ↓filL_e, ↓st1_e, ↓bnd_e, ↓iT, ↓iF, ↓reduceIte, put_ne, put_T, put_F, isIn_T, isIn_F])
theorem mnI_e (a b : Int) : mnI a b ≤ a ∧ mnI a b ≤ b ∧ (mnI a b = a ∨ mnI a b = b) := by unfold mnI; split <;> omega

theorem cc_first (R : RelN σ V) {k : Int} : ∃ b, fX1_firstBurstOfKind 19 k σ = some b ∧ b ≤ 20000 ∧ (∀ c, 0 ≤ c → c < V.2.2.2.2.2.1 → V.2.2.1.2.2.2.1 c = k → b ≤ V.2.2.1.2.2.1 c) ∧ (b = 20000 ∨ ∃ c, (0 ≤ c ∧ c < V.2.2.2.2.2.1) ∧ V.2.2.1.2.2.2.1 c = k ∧ b = V.2.2.1.2.2.1 c) := by
  have hn := R.n
  have L : ∀ (n : Nat) (b i : Int), (0 ≤ i ∧ i ≤ V.2.2.2.2.2.1) → V.2.2.2.2.2.1 - i < (n : Int) → b ≤ 20000 → (∀ c, 0 ≤ c → c < i → V.2.2.1.2.2.2.1 c = k → b ≤ V.2.2.1.2.2.1 c) → (b = 20000 ∨ ∃ c, (0 ≤ c ∧ c < V.2.2.2.2.2.1) ∧ V.2.2.1.2.2.2.1 c = k ∧ b = V.2.2.1.2.2.1 c) →
      ∃ b', fX1_firstBurstOfKind_L6 n 19 k b i σ = some b' ∧ b' ≤ 20000 ∧ (∀ c, 0 ≤ c → c < V.2.2.2.2.2.1 → V.2.2.1.2.2.2.1 c = k → b' ≤ V.2.2.1.2.2.1 c) ∧ (b' = 20000 ∨ ∃ c, (0 ≤ c ∧ c < V.2.2.2.2.2.1) ∧ V.2.2.1.2.2.2.1 c = k ∧ b' = V.2.2.1.2.2.1 c) := by
    intro n
    induction n with
    | zero =>
      intro b i h0 h1 h2 h3 h4
      omega
    | succ n ih =>
      intro b i h0 h1 h2 h3 h4
      unfold fX1_firstBurstOfKind_L6
      by_cases c : i < V.2.2.2.2.2.1
      · rw [iT (by omega), cc_kind R h0.1 c]; simp only [bnd_e]
        by_cases e : V.2.2.1.2.2.2.1 i = k
        · rw [iT e, cc_burst R h0.1 c]; simp only [bnd_e]
          unfold fX1_firstBurstOfKind_L6P33
          rw [ck_e (by omega) (by omega)]
          have hm := mnI_e b (V.2.2.1.2.2.1 i)
          refine ih _ (i + 1) (by omega) (by omega) (by omega) ?_ ?_
          · intro d d0 d1 d2
            by_cases e2 : d = i
            · rw [e2]; omega
            · have := h3 d d0 (by omega) d2; omega
          · rcases hm.2.2 with x | x
            · rw [x]; exact h4
            · right; exact ⟨i, ⟨h0.1, c⟩, e, x⟩
        · rw [iF e]
          unfold fX1_firstBurstOfKind_L6P33
          rw [ck_e (by omega) (by omega)]
          refine ih _ (i + 1) (by omega) (by omega) h2 ?_ h4
          intro d d0 d1 d2
          by_cases e2 : d = i
          · exact absurd (e2 ▸ d2) e
          · exact h3 d d0 (by omega) d2
      · rw [iF (by omega)]
        exact ⟨b, rfl, h2, fun d d0 d1 d2 => h3 d d0 (by omega) d2, h4⟩
  obtain ⟨b, x1, x2⟩ := L fu 20000 0 (by omega) (by rw [fu_i]; omega) (by omega) (fun c a b => by omega) (.inl rfl)
  refine ⟨b, ?_, x2⟩
  unfold fX1_firstBurstOfKind; rw [x1]; rfl

def kindW (V : Vw) (k l h s r : Int) : Vw := ((V.1.1, zupd V.1.2.1 k l, zupd V.1.2.2.1 k h, zupd V.1.2.2.2.1 k s, zupd V.1.2.2.2.2 k (r / 1000)), (zupd V.2.1.1 k (r % 1000 / 10), zupd V.2.1.2.1 k (r % 10), V.2.1.2.2.1, V.2.1.2.2.2.1, V.2.1.2.2.2.2), (V.2.2.1.1, V.2.2.1.2.1, V.2.2.1.2.2.1, V.2.2.1.2.2.2.1, V.2.2.1.2.2.2.2), (V.2.2.2.1.1, V.2.2.2.1.2.1, V.2.2.2.1.2.2.1, V.2.2.2.1.2.2.2.1, V.2.2.2.1.2.2.2.2), (V.2.2.2.2.1, V.2.2.2.2.2.1, V.2.2.2.2.2.2.1, V.2.2.2.2.2.2.2.1, V.2.2.2.2.2.2.2.2))
theorem rr_kindNo {k l h s r : Int} (hk : 0 ≤ k ∧ k < 12) (hs : ¬ ((1 ≤ l ∧ l ≤ 60) ∧ (10 ≤ h ∧ h ≤ 300) ∧ (0 ≤ s ∧ s ≤ 60) ∧ (0 ≤ r ∧ (1 ≤ r / 1000 ∧ r / 1000 ≤ 99) ∧ (1 ≤ r % 1000 / 10 ∧ r % 1000 / 10 ≤ 9) ∧ r % 10 ≤ 5))) : fX12_kind k l h s r τ = some (-1, put τ 0 54 0) := by
  unfold fX12_kind
  rw [st1_e, isIn_T (by omega) (by omega)]; simp only [bnd_e]; rw [iF (by decide)]
  by_cases c1 : 1 ≤ l ∧ l ≤ 60
  · rw [isIn_T c1.1 c1.2]; simp only [bnd_e]; rw [iF (by decide)]
    by_cases c2 : 10 ≤ h ∧ h ≤ 300
    · rw [isIn_T c2.1 c2.2]; simp only [bnd_e]; rw [iF (by decide)]
      by_cases c3 : 0 ≤ s ∧ s ≤ 60
      · rw [isIn_T c3.1 c3.2]; simp only [bnd_e]; rw [iF (by decide)]
        by_cases c4 : 0 ≤ r ∧ r ≤ 99999
        · rw [isIn_T c4.1 c4.2]; simp only [bnd_e]; rw [iF (by decide), dv_e c4.1 (by omega)]
          by_cases c5 : 1 ≤ r / 1000 ∧ r / 1000 ≤ 99
          · rw [isIn_T c5.1 c5.2]; simp only [bnd_e]; rw [iF (by decide), md_e c4.1 (by omega), dv_e (by omega) (by omega)]
            by_cases c6 : 1 ≤ r % 1000 / 10 ∧ r % 1000 / 10 ≤ 9
            · rw [isIn_T c6.1 c6.2]; simp only [bnd_e]; rw [iF (by decide), md_e c4.1 (by omega), iF (fun x => hs ⟨c1, c2, c3, c4.1, c5, c6, x⟩)]
            · rw [isIn_F c6]; rfl
          · rw [isIn_F c5]; rfl
        · rw [isIn_F c4]; rfl
      · rw [isIn_F c3]; rfl
    · rw [isIn_F c2]; rfl
  · rw [isIn_F c1]; rfl
set_option maxHeartbeats 2000000 in
theorem m_kind (k l h s r : Int) : Mt (fX11_kind k l h s r) (fX12_kind k l h s r) := by
  intro N σ τ R hN
  have v := R.v
  have hn := v.n
  unfold fX11_kind
  by_cases hk : 0 ≤ k ∧ k < 12
  · rw [iF (by omega), iT (by omega), cc_asSaid]; simp only [bnd_e]
    by_cases hs : ((1 ≤ l ∧ l ≤ 60) ∧ (10 ≤ h ∧ h ≤ 300) ∧ (0 ≤ s ∧ s ≤ 60) ∧ (0 ≤ r ∧ (1 ≤ r / 1000 ∧ r / 1000 ≤ 99) ∧ (1 ≤ r % 1000 / 10 ∧ r % 1000 / 10 ≤ 9) ∧ r % 10 ≤ 5))
    · rw [bi_T hs, iF (by omega)]
      obtain ⟨b, b1, b2, b3, b4⟩ := cc_first v.toRelN (k := k)
      rw [b1]; simp only [bnd_e]
      have ref : fX12_kind k l h s r τ = (fX12_kind_L108 fu k l h s r 0 (put τ 0 54 0)).bind (Sum.elim (fun _ => some ((-5), put τ 0 54 0)) (fun _ => some (k, put (put (put (put (put (put (put τ 0 54 0) 2 k l) 3 k h) 4 k s) 5 k (r / 1000)) 6 k (r % 1000 / 10)) 7 k (r % 10)))) := by
        unfold fX12_kind
        (try simp (disch := omega) only [↓ck_e, ↓rd_e, ↓wr_e, ↓wrB_e, ↓wrZ_e, ↓dv_e, ↓md_e, ↓fdv_e, ↓cpy_e, ↓filB_e, ↓filI_e, ↓filL_e, ↓st1_e, ↓bnd_e, ↓iT, ↓iF, ↓reduceIte, put_ne, put_T, put_F, isIn_T, isIn_F])
      have loop := srch (L := fun n i => fX12_kind_L108 n k l h s r i (put τ 0 54 0)) (lo := 0) (m := τ 0 32) (P := fun c => τ 14 c = k ∧ τ 13 c < l) (a := some (.inl ())) (b := some (.inr ()))
        (fun n i a1 a2 a3 => by unfold fX12_kind_L108 fX12_kind_L108P142; dsimp only [vw] at hn; (try simp (disch := omega) only [↓ck_e, ↓rd_e, ↓wr_e, ↓wrB_e, ↓wrZ_e, ↓dv_e, ↓md_e, ↓fdv_e, ↓cpy_e, ↓filB_e, ↓filI_e, ↓filL_e, ↓st1_e, ↓bnd_e, ↓iT, ↓iF, ↓reduceIte, put_ne, put_T, put_F, isIn_T, isIn_F]))
        (fun n i a1 a2 a3 => by
          dsimp only [vw] at hn
          conv => lhs; unfold fX12_kind_L108
          (try simp (disch := omega) only [↓ck_e, ↓rd_e, ↓wr_e, ↓wrB_e, ↓wrZ_e, ↓dv_e, ↓md_e, ↓fdv_e, ↓cpy_e, ↓filB_e, ↓filI_e, ↓filL_e, ↓st1_e, ↓bnd_e, ↓iT, ↓iF, ↓reduceIte, put_ne, put_T, put_F, isIn_T, isIn_F])
          by_cases e : τ 14 i = k
          · (try simp (disch := omega) only [↓ck_e, ↓rd_e, ↓wr_e, ↓wrB_e, ↓wrZ_e, ↓dv_e, ↓md_e, ↓fdv_e, ↓cpy_e, ↓filB_e, ↓filI_e, ↓filL_e, ↓st1_e, ↓bnd_e, ↓iT, ↓iF, ↓reduceIte, put_ne, put_T, put_F, isIn_T, isIn_F]); unfold fX12_kind_L108P142; (try simp (disch := omega) only [↓ck_e, ↓rd_e, ↓wr_e, ↓wrB_e, ↓wrZ_e, ↓dv_e, ↓md_e, ↓fdv_e, ↓cpy_e, ↓filB_e, ↓filI_e, ↓filL_e, ↓st1_e, ↓bnd_e, ↓iT, ↓iF, ↓reduceIte, put_ne, put_T, put_F, isIn_T, isIn_F])
          · rw [iF e]; unfold fX12_kind_L108P142; (try simp (disch := omega) only [↓ck_e, ↓rd_e, ↓wr_e, ↓wrB_e, ↓wrZ_e, ↓dv_e, ↓md_e, ↓fdv_e, ↓cpy_e, ↓filB_e, ↓filI_e, ↓filL_e, ↓st1_e, ↓bnd_e, ↓iT, ↓iF, ↓reduceIte, put_ne, put_T, put_F, isIn_T, isIn_F]))
        (fun n i a1 a2 => by unfold fX12_kind_L108; (try simp (disch := omega) only [↓ck_e, ↓rd_e, ↓wr_e, ↓wrB_e, ↓wrZ_e, ↓dv_e, ↓md_e, ↓fdv_e, ↓cpy_e, ↓filB_e, ↓filI_e, ↓filL_e, ↓st1_e, ↓bnd_e, ↓iT, ↓iF, ↓reduceIte, put_ne, put_T, put_F, isIn_T, isIn_F])) fu 0 (by omega) (by dsimp only [vw] at hn; rw [fu_i]; omega) fu_pos
      rw [ref]
      by_cases c : b < l
      · rw [iT c, loop.1 (by
          rcases b4 with x | ⟨i, x1, x2, x3⟩
          · omega
          · exact ⟨i, x1.1, x1.2, x2, by dsimp only [vw] at x3; omega⟩)]
        exact no_54 R
      · rw [iF c, loop.2 (by
          rintro ⟨i, x1, x2, x3, x4⟩
          have := b3 i x1 x2 x3
          dsimp only [vw] at this; omega)]
        simp only [bnd_e, Sum.elim_inr]
        have tell : fX2_tell k l h s r σ = some (put (put (put (put (put (put σ 7 k l) 8 k h) 9 k s) 10 k (r / 1000)) 11 k (r % 1000 / 10)) 12 k (r % 10)) := by
          unfold fX2_tell; (try simp (disch := omega) only [↓ck_e, ↓rd_e, ↓wr_e, ↓wrB_e, ↓wrZ_e, ↓dv_e, ↓md_e, ↓fdv_e, ↓cpy_e, ↓filB_e, ↓filI_e, ↓filL_e, ↓st1_e, ↓bnd_e, ↓iT, ↓iF, ↓reduceIte, put_ne, put_T, put_F, isIn_T, isIn_F])
        rw [tell]; simp only [bnd_e]
        have toldm : ∀ i, told (vw τ) i → told (kindW (vw τ) k l h s r) i := by
          rintro i ⟨x1, x2⟩
          refine ⟨x1, ?_⟩
          show 0 < zupd (τ 2) k l i
          by_cases e : i = k
          · rw [zupd_T e]; omega
          · rw [zupd_F e]; exact x2
        have hr : r % 10 ≥ 0 := by omega
        have N1 : RelN (put (put (put (put (put (put σ 7 k l) 8 k h) 9 k s) 10 k (r / 1000)) 11 k (r % 1000 / 10)) 12 k (r % 10)) (kindW (vw τ) k l h s r) := (RelN.mk (g := v.g) (k := fun i h0 h1 => by
            have := v.k i h0 h1
            unfold kindW zupd
            (simp (disch := decide) only [put_ne, put_at, vw])
            by_cases e : i = k
            · simp only [if_pos e, true_and]; omega
            · simp only [if_neg e]; exact this) (b := v.b) (d := v.d) (n := v.n) (c := fun i h0 h1 => by
            obtain ⟨a1, a2, a3, a4, a5, a6⟩ := v.c i h0 h1
            refine ⟨a1, toldm _ a2, a3, a4, ?_, a6⟩
            show zupd (τ 2) k l (τ 14 i) ≤ τ 13 i ∧ τ 13 i ≤ 20000
            dsimp only [vw] at a5
            by_cases e : τ 14 i = k
            · rw [zupd_T e]
              have := b3 i h0 h1 e
              dsimp only [vw] at this; omega
            · rw [zupd_F e]; exact a5) (m := v.m) (r := v.r) (h := v.h))
        obtain ⟨σ', e1, e2, e3⟩ := cc_reckonKindL hk fu _ 0 N1 (by omega) (by omega) (by rw [fu_i]; omega) (by
          intro k' w' t x1 x2 x3
          have hne : k' ≠ k := by omega
          have told' : told (vw τ) k' := by
            refine ⟨t.1, ?_⟩
            have := t.2
            have e : (kindW (vw τ) k l h s r).1.2.1 k' = τ 2 k' := zupd_F hne
            rw [e] at this; exact this
          have f := v.f k' w' told' x1 x2
          have q1 : (kindW (vw τ) k l h s r).1.2.2.2.2 k' = τ 5 k' := zupd_F hne
          have q2 : (kindW (vw τ) k l h s r).1.2.2.1 k' = τ 3 k' := zupd_F hne
          unfold fallOk at f ⊢
          rw [q1, q2]
          exact f)
        have rk : fX0_reckonKind k (put (put (put (put (put (put σ 7 k l) 8 k h) 9 k s) 10 k (r / 1000)) 11 k (r % 1000 / 10)) 12 k (r % 10)) = some σ' := by
          unfold fX0_reckonKind; rw [e1]; rfl
        rw [rk]; simp only [bnd_e]
        refine ⟨_, _, _, rfl, rfl, ?_⟩
        refine Rel.up (Rel_view R ?_ (fun j hj => ?_) ?_ ?_ (fun j h1 h2 => ?_) ?_ ?_ ?_ (.inl ?_))
        · exact e3
        · rw [e2 j (by omega) (by omega) (by omega), put_ne (by omega), put_ne (by omega), put_ne (by omega), put_ne (by omega), put_ne (by omega), put_ne (by omega)]
        · rw [e2 0 (by decide) (by decide) (by decide)]; (simp (disch := decide) only [put_ne, put_at, vw])
        · rw [e2 0 (by decide) (by decide) (by decide)]; (simp (disch := decide) only [put_ne, put_at, vw])
        · rw [put_ne (by omega), put_ne (by omega), put_ne (by omega), put_ne (by omega), put_ne (by omega), put_ne (by omega), put_ne (by omega)]
        · (simp (disch := decide) only [put_ne, put_at, vw]); rw [iF (by decide)]
        · (simp (disch := decide) only [put_ne, put_at, vw]); rw [iF (by decide)]
        · (simp (disch := decide) only [put_ne, put_at, vw]); rw [iF (by decide)]
        · (simp (disch := decide) only [put_ne, put_at, vw]); rw [if_pos trivial]
    · rw [bi_F hs, iT rfl, rr_kindNo hk hs]; exact no_54 R
  · have ref : fX12_kind k l h s r τ = some (-1, put τ 0 54 0) := by
      unfold fX12_kind; (try simp (disch := omega) only [↓ck_e, ↓rd_e, ↓wr_e, ↓wrB_e, ↓wrZ_e, ↓dv_e, ↓md_e, ↓fdv_e, ↓cpy_e, ↓filB_e, ↓filI_e, ↓filL_e, ↓st1_e, ↓bnd_e, ↓iT, ↓iF, ↓reduceIte, put_ne, put_T, put_F, isIn_T, isIn_F])
    rw [ref]
    by_cases h0 : k < 0
    · (try simp (disch := omega) only [↓ck_e, ↓rd_e, ↓wr_e, ↓wrB_e, ↓wrZ_e, ↓dv_e, ↓md_e, ↓fdv_e, ↓cpy_e, ↓filB_e, ↓filI_e, ↓filL_e, ↓st1_e, ↓bnd_e, ↓iT, ↓iF, ↓reduceIte, put_ne, put_T, put_F, isIn_T, isIn_F]); exact no_54 R
    · (try simp (disch := omega) only [↓ck_e, ↓rd_e, ↓wr_e, ↓wrB_e, ↓wrZ_e, ↓dv_e, ↓md_e, ↓fdv_e, ↓cpy_e, ↓filB_e, ↓filI_e, ↓filL_e, ↓st1_e, ↓bnd_e, ↓iT, ↓iF, ↓reduceIte, put_ne, put_T, put_F, isIn_T, isIn_F]); exact no_54 R
end

section
set_option linter.unusedVariables false
variable {σ τ : Sg} {V : Vw} {N : Int}
theorem cc_isDrift {a : Int} : fX11_isDrift a σ = some (bi (-50 ≤ a ∧ a ≤ 50)) := by
  unfold fX11_isDrift
  by_cases h : -50 ≤ a ∧ a ≤ 50
  · rw [bi_T h]; (try simp (disch := omega) only [↓ck_e, ↓rd_e, ↓wr_e, ↓wrB_e, ↓wrZ_e, ↓dv_e, ↓md_e, ↓fdv_e, ↓cpy_e, ↓filB_e, ↓filI_e, ↓filL_e, ↓st1_e, ↓bnd_e, ↓iT, ↓iF, ↓reduceIte, put_ne, put_T, put_F, isIn_T, isIn_F])
  · rw [bi_F h]
    by_cases h0 : a < -50 <;> (try simp (disch := omega) only [↓ck_e, ↓rd_e, ↓wr_e, ↓wrB_e, ↓wrZ_e, ↓dv_e, ↓md_e, ↓fdv_e, ↓cpy_e, ↓filB_e, ↓filI_e, ↓filL_e, ↓st1_e, ↓bnd_e, ↓iT, ↓iF, ↓reduceIte, put_ne, put_T, put_F, isIn_T, isIn_F])
theorem fallV_cong {dx dy dx' dy' : Int → Int} {b : Int} (h : ∀ l, 0 ≤ l → l < 5 → dx (b + l) = dx' (b + l) ∧ dy (b + l) = dy' (b + l)) : ∀ (t : Nat) (x y z : Int), 0 < z ∨ t = 0 → fallV dx dy b t x y z = fallV dx' dy' b t x y z
  | 0, _, _, _, _ => rfl
  | t + 1, x, y, z, hz => by
    unfold fallV
    simp only
    obtain ⟨l, hl⟩ : ∃ l, l = if z / 500 < 4 then z / 500 else 4 := ⟨_, rfl⟩
    have hl3 : 0 ≤ l ∧ l < 5 := by rw [hl]; split <;> omega
    rw [← hl, (h l hl3.1 hl3.2).1, (h l hl3.1 hl3.2).2]
    by_cases c : z - 25 ≤ 0
    · rw [iT c, iT c]
    · rw [iF c, iF c]; exact fallV_cong h t _ _ _ (by omega)
set_option maxHeartbeats 2000000 in
theorem m_wind (w l dx dy : Int) : Mt (fX11_wind w l dx dy) (fX12_wind w l dx dy) := by
  intro N σ τ R hN
  have v := R.v
  unfold fX11_wind fX12_wind
  rw [st1_e, isIn_b]; simp only [bnd_e]
  by_cases hw : 0 ≤ w ∧ w ≤ 3
  · rw [bi_T hw, iF (show ¬ w < 0 by omega), iT (show w < 4 by omega)]; (try simp only [bnd_e, one0, two0, if_false, ↓reduceIte]); rw [isIn_b]; simp only [bnd_e]
    by_cases hl : 0 ≤ l ∧ l ≤ 4
    · rw [bi_T hl, iF (show ¬ l < 0 by omega), iT (show l < 5 by omega), cc_isDrift]; (try simp only [bnd_e, one0, two0, if_false, ↓reduceIte]); rw [isIn_b]; simp only [bnd_e]
      by_cases hx : -50 ≤ dx ∧ dx ≤ 50
      · rw [bi_T hx]; (try simp only [bnd_e, one0, two0, if_false, ↓reduceIte]); rw [cc_isDrift, isIn_b]; simp only [bnd_e]
        by_cases hy : -50 ≤ dy ∧ dy ≤ 50
        · rw [bi_T hy]; (try simp only [bnd_e, one0, two0, if_false, ↓reduceIte])
          have sd : fX0_setDrift w l dx dy σ = some (put (put σ 14 (5 * w + l) dx) 15 (5 * w + l) dy) := by
            unfold fX0_setDrift; (try simp (disch := omega) only [↓ck_e, ↓rd_e, ↓wr_e, ↓wrB_e, ↓wrZ_e, ↓dv_e, ↓md_e, ↓fdv_e, ↓cpy_e, ↓filB_e, ↓filI_e, ↓filL_e, ↓st1_e, ↓bnd_e, ↓iT, ↓iF, ↓reduceIte, put_ne, put_T, put_F, isIn_T, isIn_F]); rw [show w * 5 + l = 5 * w + l by omega]
          rw [sd]; simp only [bnd_e]
          rw [ck_e (by omega) (by omega), ck_e (by omega) (by omega), wr_e (by omega) (by omega), ck_e (by omega) (by omega), ck_e (by omega) (by omega), wr_e (by omega) (by omega)]
          obtain ⟨q, hq⟩ : ∃ q, q = 5 * w + l := ⟨_, rfl⟩
          rw [← hq]
          have hq2 : 0 ≤ q ∧ q < 20 := by omega
          have N1 : RelN (put (put σ 14 q dx) 15 q dy) (vw (put (put (put τ 0 54 0) 11 q dx) 12 q dy)) := (RelN.mk (g := v.g) (k := v.k) (b := v.b) (d := fun i h0 h1 => by
              have := v.d i h0 h1
              (simp (disch := decide) only [put_ne, put_at, vw])
              by_cases e : i = q
              · simp only [if_pos e, true_and]; omega
              · simp only [if_neg e]; exact this) (n := v.n) (c := v.c) (m := v.m) (r := v.r) (h := v.h))
          obtain ⟨σ', e1, e2, e3⟩ := cc_reckonWindL (w := w) (by omega) fu _ 0 N1 (by omega) (by omega) (by rw [fu_i]; omega) (by
            intro k' w' t x1 x2 x3
            have t' : told (vw τ) k' := t
            have hK := (v.k k' t'.1.1 t'.1.2).2.2 t'.2
            have t1 := t'.1
            have hne : w' ≠ w := by omega
            have f := v.f k' w' t x1 x2
            dsimp only [vw] at hK
            have ef : ∀ u, (u = 10 ∨ u = 5) → fallV (put (put (put τ 0 54 0) 11 q dx) 12 q dy 11) (put (put (put τ 0 54 0) 11 q dx) 12 q dy 12) (5 * w') (τ 5 k').toNat 0 0 (u * τ 3 k') = fallV (τ 11) (τ 12) (5 * w') (τ 5 k').toNat 0 0 (u * τ 3 k') := by
              intro u hu
              refine fallV_cong (fun j j0 j1 => ?_) _ _ _ _ (by rcases hu with rfl | rfl <;> omega)
              (simp (disch := decide) only [put_ne, put_at, vw])
              rw [iF (by omega), iF (by omega)]; exact ⟨rfl, rfl⟩
            unfold fallOk
            show fallAt _ _ (fallV (put (put (put τ 0 54 0) 11 q dx) 12 q dy 11) (put (put (put τ 0 54 0) 11 q dx) 12 q dy 12) (5 * w') (τ 5 k').toNat 0 0 (10 * τ 3 k')) ∧ fallAt _ _ (fallV (put (put (put τ 0 54 0) 11 q dx) 12 q dy 11) (put (put (put τ 0 54 0) 11 q dx) 12 q dy 12) (5 * w') (τ 5 k').toNat 0 0 (5 * τ 3 k'))
            rw [ef 10 (.inl rfl), ef 5 (.inr rfl)]
            exact f)
          have rk : fX0_reckonWind w (put (put σ 14 q dx) 15 q dy) = some σ' := by
            unfold fX0_reckonWind; rw [e1]; rfl
          rw [rk]; simp only [bnd_e]
          refine ⟨_, _, _, rfl, rfl, ?_⟩
          refine Rel.up (Rel_view R e3 (fun j hj => ?_) ?_ ?_ (fun j h1 h2 => ?_) ?_ ?_ ?_ (.inl ?_))
          · rw [e2 j (by omega) (by omega) (by omega), put_ne (by omega), put_ne (by omega)]
          · rw [e2 0 (by decide) (by decide) (by decide)]; (simp (disch := decide) only [put_ne, put_at, vw])
          · rw [e2 0 (by decide) (by decide) (by decide)]; (simp (disch := decide) only [put_ne, put_at, vw])
          · rw [put_ne (by omega), put_ne (by omega), put_ne (by omega)]
          · (simp (disch := decide) only [put_ne, put_at, vw]); rw [iF (by decide)]
          · (simp (disch := decide) only [put_ne, put_at, vw]); rw [iF (by decide)]
          · (simp (disch := decide) only [put_ne, put_at, vw]); rw [iF (by decide)]
          · (simp (disch := decide) only [put_ne, put_at, vw]); rw [if_pos trivial]
        · rw [bi_F hy]; exact no_54 R
      · rw [bi_F hx]; exact no_54 R
    · rw [bi_F hl, iT rfl]
      by_cases h0 : l < 0
      · rw [iT h0]; exact no_54 R
      · rw [iF h0, iF (by omega)]; exact no_54 R
  · rw [bi_F hw, iT rfl]
    by_cases h0 : w < 0
    · rw [iT h0]; exact no_54 R
    · rw [iF h0, iF (by omega)]; exact no_54 R

theorem m_place (c s : Int) : Mt (fX11_place c s) (fX12_place c s) := by
  intro N σ τ R hN
  have v := R.v
  have hn := v.n
  have hn' := hn
  dsimp only [vw] at hn'
  unfold fX11_place fX12_place
  rw [cc_isCue v.toRelN, st1_e, rr_isCue (by rw [put_F (by decide)]; omega) (by rw [put_F (by decide)]; omega), put_F (by decide)]; simp only [bnd_e]
  by_cases h : 0 ≤ c ∧ c < τ 0 32
  · rw [bi_T h]; (try simp only [bnd_e, one0, two0, if_false, ↓reduceIte])
    have fin : (s = -1 ∨ isB (vw τ) s) → ∃ v σ' τ', fX11_place_P29 c s σ = some (v, σ') ∧ fX12_place_P28 c s (put τ 0 54 0) = some (v, τ') ∧ Rel (N + 1) σ' τ' := by
      intro hs
      unfold fX11_place_P29 fX12_place_P28
      rw [cc_barge v.toRelN h.1 h.2]; simp only [bnd_e]
      have e := v.c c h.1 h.2
      have sb : fX1_setBarge 19 c s σ = some (put σ 22 c s) := by
        unfold fX1_setBarge; rw [cc_isCue v.toRelN, bi_T h]; (try simp (disch := omega) only [↓ck_e, ↓rd_e, ↓wr_e, ↓wrB_e, ↓wrZ_e, ↓dv_e, ↓md_e, ↓fdv_e, ↓cpy_e, ↓filB_e, ↓filI_e, ↓filL_e, ↓st1_e, ↓bnd_e, ↓iT, ↓iF, ↓reduceIte, put_ne, put_T, put_F, isIn_T, isIn_F])
      rw [sb]; simp only [bnd_e]
      rw [rd_e (by omega) (by omega), wr_e (by omega) (by omega)]
      refine ⟨_, _, _, rfl, rfl, ?_⟩
      refine Rel.up (Rel_view R ?_ (fun j hj => by rw [put_ne (by omega)]) (by (simp (disch := decide) only [put_ne, put_at, vw])) (by (simp (disch := decide) only [put_ne, put_at, vw])) (fun j h1 h2 => by rw [put_ne (by omega), put_ne (by omega)]) (by (simp (disch := decide) only [put_ne, put_at, vw]); rw [iF (by decide)]) (by (simp (disch := decide) only [put_ne, put_at, vw]); rw [iF (by decide)]) (by (simp (disch := decide) only [put_ne, put_at, vw]); rw [iF (by decide)]) (.inl (by (simp (disch := decide) only [put_ne, put_at, vw]); rw [if_pos trivial])))
      exact (RelV.all (g := v.g) (k := v.k) (b := v.b) (d := v.d) (n := v.n) (c := fun i h0 h1 => by
          obtain ⟨a1, a2, a3, a4⟩ := v.c i h0 h1
          refine ⟨?_, a2, ?_, a4⟩
          · (simp (disch := decide) only [put_ne, put_at, vw])
            by_cases e : i = c
            · simp only [if_pos e, true_and]; exact ⟨a1.1, a1.2.1, a1.2.2.2⟩
            · simp only [if_neg e]; exact a1
          · (simp (disch := decide) only [put_ne, put_at, vw])
            by_cases e : i = c
            · simp only [if_pos e]; exact hs
            · simp only [if_neg e]; exact a3) (m := v.m) (r := v.r) (h := v.h) (f := fun k w t a b => v.f k w t a b))
    by_cases c1 : s = -1
    · rw [iT c1, iT c1]; exact fin (.inl c1)
    · rw [iF c1, iF c1, cc_isBarge v.toRelN, rr_isBarge]; simp only [bnd_e]
      have : bi (isB (vw (put τ 0 54 0)) s) = bi (isB (vw τ) s) := rfl
      rw [this]
      by_cases c2 : isB (vw τ) s
      · rw [bi_T c2]; (try simp only [bnd_e, one0, two0, if_false, ↓reduceIte]); exact fin (.inr c2)
      · rw [bi_F c2]; exact no_54 R
  · rw [bi_F h]; exact no_54 R
theorem cc_isTick {t : Int} : fX11_isTick t σ = some (bi (0 ≤ t ∧ t ≤ 20000)) := by
  unfold fX11_isTick
  by_cases h : 0 ≤ t ∧ t ≤ 20000
  · rw [bi_T h]; (try simp (disch := omega) only [↓ck_e, ↓rd_e, ↓wr_e, ↓wrB_e, ↓wrZ_e, ↓dv_e, ↓md_e, ↓fdv_e, ↓cpy_e, ↓filB_e, ↓filI_e, ↓filL_e, ↓st1_e, ↓bnd_e, ↓iT, ↓iF, ↓reduceIte, put_ne, put_T, put_F, isIn_T, isIn_F])
  · rw [bi_F h]
    by_cases h0 : t < 0 <;> (try simp (disch := omega) only [↓ck_e, ↓rd_e, ↓wr_e, ↓wrB_e, ↓wrZ_e, ↓dv_e, ↓md_e, ↓fdv_e, ↓cpy_e, ↓filB_e, ↓filI_e, ↓filL_e, ↓st1_e, ↓bnd_e, ↓iT, ↓iF, ↓reduceIte, put_ne, put_T, put_F, isIn_T, isIn_F])
theorem m_meter (w fr kn : Int) : Mt (fX11_meter w fr kn) (fX12_meter w fr kn) := by
  intro N σ τ R hN
  have v := R.v
  have hm := v.m.1
  have hm' := hm
  dsimp only [vw] at hm'
  unfold fX11_meter fX12_meter
  rw [st1_e, isIn_b]; simp only [bnd_e]
  by_cases hw : 0 ≤ w ∧ w ≤ 3
  · rw [bi_T hw, iF (show ¬ w < 0 by omega), iT (show w < 4 by omega)]; (try simp only [bnd_e, one0, two0, if_false, ↓reduceIte]); rw [cc_isTick, isIn_b]; simp only [bnd_e]
    by_cases hf : 0 ≤ fr ∧ fr ≤ 20000
    · rw [bi_T hf]; (try simp only [bnd_e, one0, two0, if_false, ↓reduceIte]); rw [cc_isTick, isIn_b]; simp only [bnd_e]
      by_cases hk : fr ≤ kn ∧ kn ≤ 20000
      · rw [bi_T hk, bi_T (show 0 ≤ kn ∧ kn ≤ 20000 by omega)]
        have pq : put τ 0 54 0 0 33 = τ 0 33 := put_F (by decide)
        by_cases hs : τ 0 33 < 20
        · (try simp only [bnd_e, one0, two0, if_false, ↓reduceIte])
          rw [iF (show ¬ kn < fr by omega), iT (show σ 40 3 < 20 by omega), pq, iF (show ¬ τ 0 33 = 20 by omega)]
          have tl : fX4_tell w fr kn σ = some (put (put (put (put σ 41 (σ 40 3) w) 42 (σ 40 3) fr) 43 (σ 40 3) kn) 40 3 (σ 40 3 + 1)) := by
            unfold fX4_tell; (try simp (disch := omega) only [↓ck_e, ↓rd_e, ↓wr_e, ↓wrB_e, ↓wrZ_e, ↓dv_e, ↓md_e, ↓fdv_e, ↓cpy_e, ↓filB_e, ↓filI_e, ↓filL_e, ↓st1_e, ↓bnd_e, ↓iT, ↓iF, ↓reduceIte, put_ne, put_T, put_F, isIn_T, isIn_F])
          rw [tl]; simp only [bnd_e]
          (try simp (disch := omega) only [↓ck_e, ↓rd_e, ↓wr_e, ↓wrB_e, ↓wrZ_e, ↓dv_e, ↓md_e, ↓fdv_e, ↓cpy_e, ↓filB_e, ↓filI_e, ↓filL_e, ↓st1_e, ↓bnd_e, ↓iT, ↓iF, ↓reduceIte, put_ne, put_T, put_F, isIn_T, isIn_F])
          refine ⟨_, _, _, rfl, by rw [hm'.1], ?_⟩
          obtain ⟨q, hq⟩ : ∃ q, q = τ 0 33 := ⟨_, rfl⟩
          rw [hm'.1, ← hq]
          refine Rel.up (Rel_view R ?_ (fun j hj => by rw [put_ne (by omega), put_ne (by omega), put_ne (by omega), put_ne (by omega)]) (by (simp (disch := decide) only [put_ne, put_at, vw])) (by (simp (disch := decide) only [put_ne, put_at, vw])) (fun j h1 h2 => by rw [put_ne (by omega), put_ne (by omega), put_ne (by omega), put_ne (by omega), put_ne (by omega)]) (by (simp (disch := decide) only [put_ne, put_at, vw]); rw [iF (by decide), iF (by decide)]) (by (simp (disch := decide) only [put_ne, put_at, vw]); rw [iF (by decide), iF (by decide)]) (by (simp (disch := decide) only [put_ne, put_at, vw]); rw [iF (by decide), iF (by decide)]) (.inl (by (simp (disch := decide) only [put_ne, put_at, vw]); rw [iF (by decide), if_pos trivial])))
          exact (RelV.all (g := v.g) (k := v.k) (b := v.b) (d := v.d) (n := v.n) (c := v.c) (m := by
              refine ⟨?_, ?_⟩
              · (simp (disch := decide) only [put_ne, put_at, vw]); simp only [if_pos trivial, true_and]; omega
              · intro i h0 h1
                have h1' : i < q + 1 := by
                  have : (vw (put (put (put (put (put τ 0 54 0) 22 q w) 23 q fr) 24 q kn) 0 33 (q + 1))).2.2.2.2.2.2.1 = q + 1 := by (simp (disch := decide) only [put_ne, put_at, vw]); rw [if_pos trivial]
                  omega
                (simp (disch := decide) only [put_ne, put_at, vw])
                by_cases e : i = q
                · simp only [if_pos e, true_and]; omega
                · simp only [if_neg e]
                  exact v.m.2 i h0 (by show i < τ 0 33; omega)) (r := v.r) (h := v.h) (f := fun k w t a b => v.f k w t a b))
        · (try simp only [bnd_e, one0, two0, if_false, ↓reduceIte])
          rw [iF (show ¬ kn < fr by omega), iF (show ¬ σ 40 3 < 20 by omega), pq, iT (show τ 0 33 = 20 by omega)]; exact no_54 R
      · rw [bi_F hk]; (try simp only [bnd_e, one0, two0, if_false, ↓reduceIte])
        by_cases h0 : 0 ≤ kn ∧ kn ≤ 20000
        · rw [bi_T h0]; (try simp only [bnd_e, one0, two0, if_false, ↓reduceIte]); rw [iT (show kn < fr by omega)]; exact no_54 R
        · rw [bi_F h0]; (try simp only [bnd_e, one0, two0, if_false, ↓reduceIte]); exact no_54 R
    · rw [bi_F hf]; exact no_54 R
  · rw [bi_F hw]; (try simp only [bnd_e, one0, two0, if_false, ↓reduceIte])
    by_cases h0 : w < 0
    · rw [iT h0]; exact no_54 R
    · rw [iF h0, iF (show ¬ w < 4 by omega)]; exact no_54 R
theorem m_holdless : Mt fX11_holdless fX12_holdless := by
  intro N σ τ R hN
  have v := R.v
  have hm := v.r.1
  unfold fX11_holdless fX12_holdless
  rw [st1_e, st1_e, st1_e, put_F (by decide)]
  refine ⟨_, _, _, rfl, by rw [hm.1], ?_⟩
  refine Rel.up (Rel_view R ?_ (fun j hj => by rw [put_ne (by omega)]) (by (simp (disch := decide) only [put_ne, put_at, vw])) (by (simp (disch := decide) only [put_ne, put_at, vw])) (fun j h1 h2 => by rw [put_ne (by omega), put_ne (by omega)]) (by (simp (disch := decide) only [put_ne, put_at, vw]); rw [iF (by decide), iF (by decide)]) (by (simp (disch := decide) only [put_ne, put_at, vw]); rw [iF (by decide), iF (by decide)]) (by (simp (disch := decide) only [put_ne, put_at, vw]); rw [iF (by decide), iF (by decide)]) (.inl (by (simp (disch := decide) only [put_ne, put_at, vw]); rw [iF (by decide), if_pos trivial])))
  exact (RelV.all (g := v.g) (k := v.k) (b := v.b) (d := v.d) (n := v.n) (c := v.c) (m := v.m) (r := by
      have e : (vw (put (put τ 0 54 0) 0 34 0)).2.2.2.2.2.2.2.1 = 0 := by (simp (disch := decide) only [put_ne, put_at, vw]); rw [if_pos trivial]
      refine ⟨?_, fun i h0 h1 => by omega⟩
      rw [e, put_T rfl]; omega) (h := v.h) (f := fun k w t a b => v.f k w t a b))
theorem m_fault (c x : Int) : Mt (fX11_fault c x) (fX12_fault c x) := by
  intro N σ τ R hN
  have v := R.v
  have hn := v.n
  dsimp only [vw] at hn
  unfold fX11_fault fX12_fault
  rw [cc_isCue v.toRelN, st1_e, rr_isCue (by rw [put_F (by decide)]; omega) (by rw [put_F (by decide)]; omega), put_F (by decide)]; simp only [bnd_e]
  by_cases h : 0 ≤ c ∧ c < τ 0 32
  · rw [bi_T h]; (try simp only [bnd_e, one0, two0, if_false, ↓reduceIte]); rw [isIn_b]; simp only [bnd_e]
    by_cases hx : 0 ≤ x ∧ x ≤ 6
    · rw [bi_T hx, iF (show ¬ x < 0 by omega), iT hx.2]; (try simp only [bnd_e, one0, two0, if_false, ↓reduceIte]); rw [cc_fault v.toRelN h.1 h.2]; simp only [bnd_e]
      have sf : fX7_setFault c x σ = some (put σ 49 c x) := by unfold fX7_setFault; (try simp (disch := omega) only [↓ck_e, ↓rd_e, ↓wr_e, ↓wrB_e, ↓wrZ_e, ↓dv_e, ↓md_e, ↓fdv_e, ↓cpy_e, ↓filB_e, ↓filI_e, ↓filL_e, ↓st1_e, ↓bnd_e, ↓iT, ↓iF, ↓reduceIte, put_ne, put_T, put_F, isIn_T, isIn_F])
      rw [sf, rd_e (by omega) (by omega), wr_e (by omega) (by omega)]; simp only [bnd_e]
      refine ⟨_, _, _, rfl, rfl, ?_⟩
      refine Rel.up (Rel_view R ?_ (fun j hj => by rw [put_ne (by omega)]) (by (simp (disch := decide) only [put_ne, put_at, vw])) (by (simp (disch := decide) only [put_ne, put_at, vw])) (fun j h1 h2 => by rw [put_ne (by omega), put_ne (by omega)]) (by (simp (disch := decide) only [put_ne, put_at, vw]); rw [iF (by decide)]) (by (simp (disch := decide) only [put_ne, put_at, vw]); rw [iF (by decide)]) (by (simp (disch := decide) only [put_ne, put_at, vw]); rw [iF (by decide)]) (.inl (by (simp (disch := decide) only [put_ne, put_at, vw]); rw [if_pos trivial])))
      exact (RelV.all (g := v.g) (k := v.k) (b := v.b) (d := v.d) (n := v.n) (c := fun i h0 h1 => by
          obtain ⟨a1, a2, a3, a4, a5, a6⟩ := v.c i h0 h1
          refine ⟨?_, a2, a3, a4, a5, ?_⟩
          · (simp (disch := decide) only [put_ne, put_at, vw])
            by_cases e : i = c
            · simp only [if_pos e, true_and]; exact ⟨a1.1, a1.2.1, a1.2.2.1, a1.2.2.2.1, trivial⟩
            · simp only [if_neg e]; exact a1
          · (simp (disch := decide) only [put_ne, put_at, vw])
            by_cases e : i = c
            · simp only [if_pos e]; exact hx
            · simp only [if_neg e]; exact a6) (m := v.m) (r := v.r) (h := v.h) (f := fun k w t a b => v.f k w t a b))
    · rw [bi_F hx]; (try simp only [bnd_e, one0, two0, if_false, ↓reduceIte])
      by_cases h0 : x < 0
      · rw [iT h0]; exact no_54 R
      · rw [iF h0, iF (show ¬ x ≤ 6 by omega)]; exact no_54 R
  · rw [bi_F h]; exact no_54 R
theorem m_halt (t : Int) : Mt (fX11_halt t) (fX12_halt t) := by
  intro N σ τ R hN
  have v := R.v
  have hh := v.h
  dsimp only [vw] at hh
  unfold fX11_halt fX12_halt
  rw [st1_e, isIn_b]; simp only [bnd_e]
  have fin : -1 ≤ t ∧ t ≤ 20000 → ∃ v σ' τ', fX11_halt_P14 t σ = some (v, σ') ∧ (st1 (put (put τ 0 54 0) 0 35 t) fun σ5 => some ((put τ 0 54 0) 0 35, σ5)) = some (v, τ') ∧ Rel (N + 1) σ' τ' := by
    intro ht
    unfold fX11_halt_P14
    rw [st1_e, st1_e, put_F (by decide)]
    refine ⟨_, _, _, rfl, by rw [hh.1], ?_⟩
    refine Rel.up (Rel_view R ?_ (fun j hj => by rw [put_ne (by omega)]) (by (simp (disch := decide) only [put_ne, put_at, vw])) (by (simp (disch := decide) only [put_ne, put_at, vw])) (fun j h1 h2 => by rw [put_ne (by omega), put_ne (by omega)]) (by (simp (disch := decide) only [put_ne, put_at, vw]); rw [iF (by decide), iF (by decide)]) (by (simp (disch := decide) only [put_ne, put_at, vw]); rw [iF (by decide), iF (by decide)]) (by (simp (disch := decide) only [put_ne, put_at, vw]); rw [iF (by decide), iF (by decide)]) (.inl (by (simp (disch := decide) only [put_ne, put_at, vw]); rw [iF (by decide), if_pos trivial])))
    exact (RelV.all (g := v.g) (k := v.k) (b := v.b) (d := v.d) (n := v.n) (c := v.c) (m := v.m) (r := v.r) (h := by
        have e : (vw (put (put τ 0 54 0) 0 35 t)).2.2.2.2.2.2.2.2 = t := by (simp (disch := decide) only [put_ne, put_at, vw]); rw [if_pos trivial]
        rw [e, put_T rfl]; omega) (f := fun k w t a b => v.f k w t a b))
  by_cases h : -1 ≤ t ∧ t ≤ 20000
  · rw [bi_T h]; (try simp only [bnd_e, one0, two0, if_false, ↓reduceIte])
    by_cases h1 : t = -1
    · rw [iT h1]; exact fin h
    · rw [iF h1, cc_isTick, bi_T (by omega)]; simp only [bnd_e]; (try simp only [bnd_e, one0, two0, if_false, ↓reduceIte]); exact fin h
  · rw [bi_F h, iF (by omega), cc_isTick, bi_F (by omega)]; exact no_54 R
end

