theorem bump_bump (x : Ct) (a b c d : Nat) : bump (bump x a b) c d = bump x (a + c) (b + d) := by
  obtain ⟨p, l, e, R, s, m, args, below, meth, cc, Q, kc, ks⟩ := x
  unfold bump
  simp only [Nat.add_assoc]
theorem bump_00 (x : Ct) : bump x 0 0 = x := by
  obtain ⟨p, l, e, R, s, m, args, below, meth, cc, Q, kc, ks⟩ := x
  rfl
theorem rg_bAnd (a b : Int) : rg (bAnd a b) := rg_toInt32 _
def CxL (x : Ct) (g : Gm) (nf nlc n : Nat) : Prop := ∀ u, u ≤ n → Cx (bump x u (6 * u)) yL g 8 cL_law RL nf nlc
theorem CxL.c {x : Ct} {g : Gm} {nf nlc n : Nat} (h : CxL x g nf nlc n) : Cx x yL g 8 cL_law RL nf nlc := by
  have := h 0 (by omega)
  rw [Nat.mul_zero, bump_00] at this
  exact this
theorem CxL.c2 {x : Ct} {g : Gm} {nf nlc n : Nat} (h : CxL x g nf nlc (n + 1)) : Cx (bump x 1 6) yL g 8 cL_law RL nf nlc := h 1 (by omega)
theorem CxL.m {x : Ct} {g : Gm} {nf nlc n : Nat} (h : CxL x g nf nlc (n + 1)) : CxL x g nf nlc n := fun u hu => h u (by omega)
theorem CxL.b {x : Ct} {g : Gm} {nf nlc n : Nat} (h : CxL x g nf nlc (n + 1)) : CxL (bump x 1 6) g nf nlc n := by
  intro u hu
  rw [bump_bump]
  have := h (1 + u) (by omega)
  rw [show 6 * (1 + u) = 6 + 6 * u by omega] at this
  exact this
set_option maxRecDepth 100000 in
theorem lw_loop {g : Gm} {nf nlc : Nat} (hf : 67 ≤ nf) (hl : 1475 ≤ nlc) {b L : Nat} {xs : Nat → Int32} (hL : L ≤ 3072) {l : Launch} (hlt : l.stackTraces = false) {Fin : Ct → Prop} (hb : ∀ x, Fin x → Fin (bump x 1 6)) (fin : ∀ (x : Ct) (i : Int) (σ τ : Sg) (f : Int → Int), Fin x → Cx x yL g 8 cL_law RL nf nlc → J x yL g 8 1725 (lwLo g b i) [] (zL σ τ f)) :
    ∀ (n : Nat) (x : Ct) (i N : Int) (σ τ : Sg) (f : Int → Int), CxL x g nf nlc n → XSc x yL g b L xs → x.2.1 = l → Fin x → 0 ≤ i → (L : Int) < i + 6 * n + 6 → i ≤ 3072 → Rel N σ τ → N + n ≤ 1000000 → wfS yC σ → wfS yR τ → J x yL g 8 23 (lwLo g b i) [] (zL σ τ f) := by
  intro n
  induction n with
  | zero =>
    intro x i N σ τ f CL hX hxl hF hi hLi hi9 R hN hσ hτ
    have C := CL.c
    refine J_iload C 4 dL_law_23 0 rfl ?_
    refine J_aload_n C 0 dL_law_25 rfl 1 rfl ?_
    refine J_slenI C hX dL_law_26 ?_
    refine J_bipush C dL_law_27 (bp8 (by decide) (by decide)) ?_
    refine J_isub C (K := fun v => some v) (o := (L : Int) - 6) dL_law_29 (by unfold ck; rw [if_pos ⟨by omega, by omega⟩]) (fun v _ e => ?_)
    have e := sE e
    subst e
    refine J_icmp_gt C ⟨by omega, by omega⟩ ⟨by omega, by omega⟩ (tgt := 1725) dL_law_30 (by decide) (A := none) (B := some ()) (o := ()) (if_neg (by omega)) (fun n _ => by cases n) (fun _ _ => ?_)
    exact fin x i σ τ f hF C
  | succ n ih =>
    intro x i N σ τ f CL hX hxl hF hi hLi hi9 R hN hσ hτ
    have C := CL.c
    have C2 := CL.c2
    refine J_iload C 4 dL_law_23 0 rfl ?_
    refine J_aload_n C 0 dL_law_25 rfl 1 rfl ?_
    refine J_slenI C hX dL_law_26 ?_
    refine J_bipush C dL_law_27 (bp8 (by decide) (by decide)) ?_
    refine J_isub C (K := fun v => some v) (o := (L : Int) - 6) dL_law_29 (by unfold ck; rw [if_pos ⟨by omega, by omega⟩]) (fun v _ e => ?_)
    have e := sE e
    subst e
    by_cases hi6 : (L : Int) < i + 6
    · refine J_icmp_gt C ⟨by omega, by omega⟩ ⟨by omega, by omega⟩ (tgt := 1725) dL_law_30 (by decide) (A := none) (B := some ()) (o := ()) (if_neg (by omega)) (fun n _ => by cases n) (fun _ _ => ?_)
      exact fin x i σ τ f hF C
    refine J_icmp_gt C ⟨by omega, by omega⟩ ⟨by omega, by omega⟩ (tgt := 1725) dL_law_30 (by decide) (A := some ()) (B := none) (o := ()) (if_pos (by omega)) (fun _ _ => ?_) (fun n _ => by cases n)
    have hi6 : i + 6 ≤ (L : Int) := by omega
    refine J_aload_n C 0 dL_law_33 rfl 1 rfl ?_
    refine J_iload C 4 dL_law_34 0 rfl ?_
    refine J_sldI C hX (by omega) (by omega) (by omega) dL_law_36 ?_
    refine J_bipush C dL_law_37 (bp8 (by decide) (by decide)) ?_
    refine J_iand C dL_law_39 ?_
    have ra := rg_bAnd (xs i.toNat).toInt 63
    generalize bAnd (xs i.toNat).toInt 63 = a at ra
    have nx : ∀ (x' : Ct) (σ' τ' : Sg) (f' : Int → Int), CxL x' g nf nlc n → XSc x' yL g b L xs → x'.2.1 = l → Fin x' → Rel (N + 1) σ' τ' → wfS yC σ' → wfS yR τ' → J x' yL g 8 1719 (lwLo g b i) [] (zL σ' τ' f') := by
      intro x' σ' τ' f' CL' hX' hxl' hF' R' w1 w2
      refine J_iinc CL'.c (K := fun v => some v) (o := i + 6) 4 0 dL_law_1719 rfl (by decide) (by unfold ck; rw [if_pos ⟨by omega, by omega⟩]) (fun v _ e => ?_)
      have e := sE e
      subst e
      refine J_goto CL'.c (tgt := 23) dL_law_1722 (by decide) ?_
      exact ih x' (i + 6) (N + 1) σ' τ' f' CL' hX' hxl' hF' (by omega) (by push_cast at hLi ⊢; omega) (by omega) R' (by push_cast at hN ⊢; omega) w1 w2
    have hN1 : N ≤ 1000000 := by omega
    by_cases e0 : a = 0
    · refine J_switch C ra (tgt := 212) dL_law_40 172 (fun h => by omega) (fun _ _ => by rw [e0]; rfl) (by decide) ?_
      obtain ⟨v, σ', τ', q0, q1, R'⟩ := (m_begin) N σ τ R hN1
      exact lw_begin C (by omega) (by omega) hX hL hi hi6 hσ hτ q0 q1 (fun w1 w2 => nx x σ' τ' f CL.m hX hxl hF R' w1 w2)
    by_cases e1 : a = 1
    · refine J_switch C ra (tgt := 225) dL_law_40 185 (fun h => by omega) (fun _ _ => by rw [e1]; rfl) (by decide) ?_
      obtain ⟨v, σ', τ', q0, q1, R'⟩ := (m_cell (xs (i + 1).toNat).toInt (xs (i + 2).toNat).toInt (xs (i + 3).toNat).toInt) N σ τ R hN1
      exact lw_cell C (by omega) (by omega) hX hL hi hi6 hσ hτ q0 q1 (fun w1 w2 => nx x σ' τ' f CL.m hX hxl hF R' w1 w2)
    by_cases e2 : a = 2
    · refine J_switch C ra (tgt := 274) dL_law_40 234 (fun h => by omega) (fun _ _ => by rw [e2]; rfl) (by decide) ?_
      obtain ⟨v, σ', τ', q0, q1, R'⟩ := (m_kind (xs (i + 1).toNat).toInt (xs (i + 2).toNat).toInt (xs (i + 3).toNat).toInt (xs (i + 4).toNat).toInt (xs (i + 5).toNat).toInt) N σ τ R hN1
      exact lw_kind C (by omega) (by omega) hX hL hi hi6 hσ hτ q0 q1 (fun w1 w2 => nx x σ' τ' f CL.m hX hxl hF R' w1 w2)
    by_cases e3 : a = 3
    · refine J_switch C ra (tgt := 347) dL_law_40 307 (fun h => by omega) (fun _ _ => by rw [e3]; rfl) (by decide) ?_
      obtain ⟨v, σ', τ', q0, q1, R'⟩ := (m_barge (xs (i + 1).toNat).toInt (xs (i + 2).toNat).toInt (xs (i + 3).toNat).toInt (xs (i + 4).toNat).toInt) N σ τ R hN1
      exact lw_barge C (by omega) (by omega) hX hL hi hi6 hσ hτ q0 q1 (fun w1 w2 => nx x σ' τ' f CL.m hX hxl hF R' w1 w2)
    by_cases e4 : a = 4
    · refine J_switch C ra (tgt := 408) dL_law_40 368 (fun h => by omega) (fun _ _ => by rw [e4]; rfl) (by decide) ?_
      obtain ⟨v, σ', τ', q0, q1, R'⟩ := (m_wind (xs (i + 1).toNat).toInt (xs (i + 2).toNat).toInt (xs (i + 3).toNat).toInt (xs (i + 4).toNat).toInt) N σ τ R hN1
      exact lw_wind C (by omega) (by omega) hX hL hi hi6 hσ hτ q0 q1 (fun w1 w2 => nx x σ' τ' f CL.m hX hxl hF R' w1 w2)
    by_cases e5 : a = 5
    · refine J_switch C ra (tgt := 469) dL_law_40 429 (fun h => by omega) (fun _ _ => by rw [e5]; rfl) (by decide) ?_
      obtain ⟨v, σ', τ', q0, q1, R'⟩ := (m_apart (xs (i + 1).toNat).toInt) N σ τ R hN1
      exact lw_apart C (by omega) (by omega) hX hL hi hi6 hσ hτ q0 q1 (fun w1 w2 => nx x σ' τ' f CL.m hX hxl hF R' w1 w2)
    by_cases e6 : a = 6
    · refine J_switch C ra (tgt := 494) dL_law_40 454 (fun h => by omega) (fun _ _ => by rw [e6]; rfl) (by decide) ?_
      obtain ⟨v, q0, q1⟩ := (m_may (xs (i + 1).toNat).toInt (xs (i + 2).toNat).toInt) N σ τ R
      exact lw_may C (by omega) (by omega) hX hL hi hi6 hσ hτ q0 q1 (fun w1 w2 => nx x σ τ f CL.m hX hxl hF R.up w1 w2)
    by_cases e7 : a = 7
    · refine J_switch C ra (tgt := 531) dL_law_40 491 (fun h => by omega) (fun _ _ => by rw [e7]; rfl) (by decide) ?_
      obtain ⟨v, q0, q1⟩ := (m_safe (xs (i + 1).toNat).toInt (xs (i + 2).toNat).toInt (xs (i + 3).toNat).toInt (xs (i + 4).toNat).toInt) N σ τ R
      exact lw_safe C (by omega) (by omega) hX hL hi hi6 hσ hτ q0 q1 (fun w1 w2 => nx x σ τ f CL.m hX hxl hF R.up w1 w2)
    by_cases e8 : a = 8
    · refine J_switch C ra (tgt := 592) dL_law_40 552 (fun h => by omega) (fun _ _ => by rw [e8]; rfl) (by decide) ?_
      obtain ⟨v, q0, q1⟩ := (m_hot (xs (i + 1).toNat).toInt (xs (i + 2).toNat).toInt (xs (i + 3).toNat).toInt (xs (i + 4).toNat).toInt (xs (i + 5).toNat).toInt) N σ τ R
      exact lw_hot C (by omega) (by omega) hX hL hi hi6 hσ hτ q0 q1 (fun w1 w2 => nx x σ τ f CL.m hX hxl hF R.up w1 w2)
    by_cases e9 : a = 9
    · refine J_switch C ra (tgt := 665) dL_law_40 625 (fun h => by omega) (fun _ _ => by rw [e9]; rfl) (by decide) ?_
      obtain ⟨v, σ', τ', q0, q1, R'⟩ := (m_write (xs (i + 1).toNat).toInt) N σ τ R hN1
      exact lw_write C (by omega) (by omega) hX hL hi hi6 hσ hτ q0 q1 (fun w1 w2 => nx x σ' τ' f CL.m hX hxl hF R' w1 w2)
    by_cases e10 : a = 10
    · refine J_switch C ra (tgt := 690) dL_law_40 650 (fun h => by omega) (fun _ _ => by rw [e10]; rfl) (by decide) ?_
      obtain ⟨v, τ', q1, R', h⟩ := (m_cue (xs (i + 1).toNat).toInt (xs (i + 2).toNat).toInt) N σ τ R
      exact lw_cue C C2 hlt hxl (by omega) (by omega) hX hL hi hi6 hσ hτ q1 h (fun f' w1 w2 => nx (bump x 1 6) σ τ' f' CL.b (hX.bump 1 6) hxl (hb x hF) R'.up w1 w2)
    by_cases e11 : a = 11
    · refine J_switch C ra (tgt := 758) dL_law_40 718 (fun h => by omega) (fun _ _ => by rw [e11]; rfl) (by decide) ?_
      obtain ⟨v, σ', τ', q0, q1, R'⟩ := (m_stretch (xs (i + 1).toNat).toInt (xs (i + 2).toNat).toInt (xs (i + 3).toNat).toInt) N σ τ R hN1
      exact lw_stretch C (by omega) (by omega) hX hL hi hi6 hσ hτ q0 q1 (fun w1 w2 => nx x σ' τ' f CL.m hX hxl hF R' w1 w2)
    by_cases e12 : a = 12
    · refine J_switch C ra (tgt := 807) dL_law_40 767 (fun h => by omega) (fun _ _ => by rw [e12]; rfl) (by decide) ?_
      obtain ⟨v, σ', τ', q0, q1, R'⟩ := (m_lay (xs (i + 1).toNat).toInt) N σ τ R hN1
      exact lw_lay C (by omega) (by omega) hX hL hi hi6 hσ hτ q0 q1 (fun w1 w2 => nx x σ' τ' f CL.m hX hxl hF R' w1 w2)
    by_cases e13 : a = 13
    · refine J_switch C ra (tgt := 832) dL_law_40 792 (fun h => by omega) (fun _ _ => by rw [e13]; rfl) (by decide) ?_
      obtain ⟨v, σ', τ', q0, q1, R'⟩ := (m_proof (xs (i + 1).toNat).toInt (xs (i + 2).toNat).toInt) N σ τ R hN1
      exact lw_proof C (by omega) (by omega) hX hL hi hi6 hσ hτ q0 q1 (fun w1 w2 => nx x σ' τ' f CL.m hX hxl hF R' w1 w2)
    by_cases e14 : a = 14
    · refine J_switch C ra (tgt := 869) dL_law_40 829 (fun h => by omega) (fun _ _ => by rw [e14]; rfl) (by decide) ?_
      obtain ⟨v, σ', τ', q0, q1, R'⟩ := (m_place (xs (i + 1).toNat).toInt (xs (i + 2).toNat).toInt) N σ τ R hN1
      exact lw_place C (by omega) (by omega) hX hL hi hi6 hσ hτ q0 q1 (fun w1 w2 => nx x σ' τ' f CL.m hX hxl hF R' w1 w2)
    by_cases e15 : a = 15
    · refine J_switch C ra (tgt := 906) dL_law_40 866 (fun h => by omega) (fun _ _ => by rw [e15]; rfl) (by decide) ?_
      obtain ⟨v, σ', τ', q0, q1, R'⟩ := (m_meter (xs (i + 1).toNat).toInt (xs (i + 2).toNat).toInt (xs (i + 3).toNat).toInt) N σ τ R hN1
      exact lw_meter C (by omega) (by omega) hX hL hi hi6 hσ hτ q0 q1 (fun w1 w2 => nx x σ' τ' f CL.m hX hxl hF R' w1 w2)
    by_cases e16 : a = 16
    · refine J_switch C ra (tgt := 955) dL_law_40 915 (fun h => by omega) (fun _ _ => by rw [e16]; rfl) (by decide) ?_
      obtain ⟨v, q0, q1⟩ := (m_knows (xs (i + 1).toNat).toInt) N σ τ R
      exact lw_knows C (by omega) (by omega) hX hL hi hi6 hσ hτ q0 q1 (fun w1 w2 => nx x σ τ f CL.m hX hxl hF R.up w1 w2)
    by_cases e17 : a = 17
    · refine J_switch C ra (tgt := 980) dL_law_40 940 (fun h => by omega) (fun _ _ => by rw [e17]; rfl) (by decide) ?_
      obtain ⟨v, σ', τ', q0, q1, R'⟩ := (m_hold (xs (i + 1).toNat).toInt) N σ τ R hN1
      exact lw_hold C (by omega) (by omega) hX hL hi hi6 hσ hτ q0 q1 (fun w1 w2 => nx x σ' τ' f CL.m hX hxl hF R' w1 w2)
    by_cases e18 : a = 18
    · refine J_switch C ra (tgt := 1005) dL_law_40 965 (fun h => by omega) (fun _ _ => by rw [e18]; rfl) (by decide) ?_
      obtain ⟨v, σ', τ', q0, q1, R'⟩ := (m_holdless) N σ τ R hN1
      exact lw_holdless C (by omega) (by omega) hX hL hi hi6 hσ hτ q0 q1 (fun w1 w2 => nx x σ' τ' f CL.m hX hxl hF R' w1 w2)
    by_cases e19 : a = 19
    · refine J_switch C ra (tgt := 1018) dL_law_40 978 (fun h => by omega) (fun _ _ => by rw [e19]; rfl) (by decide) ?_
      obtain ⟨v, σ', τ', q0, q1, R'⟩ := (m_fault (xs (i + 1).toNat).toInt (xs (i + 2).toNat).toInt) N σ τ R hN1
      exact lw_fault C (by omega) (by omega) hX hL hi hi6 hσ hτ q0 q1 (fun w1 w2 => nx x σ' τ' f CL.m hX hxl hF R' w1 w2)
    by_cases e20 : a = 20
    · refine J_switch C ra (tgt := 1055) dL_law_40 1015 (fun h => by omega) (fun _ _ => by rw [e20]; rfl) (by decide) ?_
      obtain ⟨v, σ', τ', q0, q1, R'⟩ := (m_halt (xs (i + 1).toNat).toInt) N σ τ R hN1
      exact lw_halt C (by omega) (by omega) hX hL hi hi6 hσ hτ q0 q1 (fun w1 w2 => nx x σ' τ' f CL.m hX hxl hF R' w1 w2)
    by_cases e21 : a = 21
    · refine J_switch C ra (tgt := 1080) dL_law_40 1040 (fun h => by omega) (fun _ _ => by rw [e21]; rfl) (by decide) ?_
      obtain ⟨v, σ', τ', q0, q1, R'⟩ := (m_fate (xs (i + 1).toNat).toInt) N σ τ R hN1
      exact lw_fate C (by omega) (by omega) hX hL hi hi6 hσ hτ q0 q1 (fun w1 w2 => nx x σ' τ' f CL.m hX hxl hF R' w1 w2)
    by_cases e22 : a = 22
    · refine J_switch C ra (tgt := 1105) dL_law_40 1065 (fun h => by omega) (fun _ _ => by rw [e22]; rfl) (by decide) ?_
      obtain ⟨v, τ', q1, h⟩ := (m_goes (xs (i + 1).toNat).toInt (xs (i + 2).toNat).toInt) N σ τ R hN1
      exact lw_goes (Q := fun σ' => Rel (N + 1) σ' τ') C C2 hlt hxl (by omega) (by omega) hX hL hi hi6 hσ hτ q1 h (fun σ' f' R' w1 w2 => nx (bump x 1 6) σ' τ' f' CL.b (hX.bump 1 6) hxl (hb x hF) R' w1 w2)
    by_cases e23 : a = 23
    · refine J_switch C ra (tgt := 1173) dL_law_40 1133 (fun h => by omega) (fun _ _ => by rw [e23]; rfl) (by decide) ?_
      obtain ⟨v, σ', τ', q0, q1, R'⟩ := (m_many (xs (i + 1).toNat).toInt) N σ τ R hN1
      exact lw_many C (by omega) (by omega) hX hL hi hi6 hσ hτ q0 q1 (fun w1 w2 => nx x σ' τ' f CL.m hX hxl hF R' w1 w2)
    by_cases e24 : a = 24
    · refine J_switch C ra (tgt := 1198) dL_law_40 1158 (fun h => by omega) (fun _ _ => by rw [e24]; rfl) (by decide) ?_
      obtain ⟨v, σ', τ', q0, q1, R'⟩ := (m_order (xs (i + 1).toNat).toInt) N σ τ R hN1
      exact lw_order C (by omega) (by omega) hX hL hi hi6 hσ hτ q0 q1 (fun w1 w2 => nx x σ' τ' f CL.m hX hxl hF R' w1 w2)
    by_cases e25 : a = 25
    · refine J_switch C ra (tgt := 1223) dL_law_40 1183 (fun h => by omega) (fun _ _ => by rw [e25]; rfl) (by decide) ?_
      obtain ⟨v, σ', τ', q0, q1, R'⟩ := (m_seen (xs (i + 1).toNat).toInt (xs (i + 2).toNat).toInt) N σ τ R hN1
      exact lw_seen C (by omega) (by omega) hX hL hi hi6 hσ hτ q0 q1 (fun w1 w2 => nx x σ' τ' f CL.m hX hxl hF R' w1 w2)
    by_cases e26 : a = 26
    · refine J_switch C ra (tgt := 1260) dL_law_40 1220 (fun h => by omega) (fun _ _ => by rw [e26]; rfl) (by decide) ?_
      obtain ⟨v, σ', τ', q0, q1, R'⟩ := (m_unseen) N σ τ R hN1
      exact lw_unseen C (by omega) (by omega) hX hL hi hi6 hσ hτ q0 q1 (fun w1 w2 => nx x σ' τ' f CL.m hX hxl hF R' w1 w2)
    by_cases e27 : a = 27
    · refine J_switch C ra (tgt := 1273) dL_law_40 1233 (fun h => by omega) (fun _ _ => by rw [e27]; rfl) (by decide) ?_
      obtain ⟨v, σ', τ', q0, q1, R'⟩ := (m_duds) N σ τ R hN1
      exact lw_duds C (by omega) (by omega) hX hL hi hi6 hσ hτ q0 q1 (fun w1 w2 => nx x σ' τ' f CL.m hX hxl hF R' w1 w2)
    by_cases e28 : a = 28
    · refine J_switch C ra (tgt := 1286) dL_law_40 1246 (fun h => by omega) (fun _ _ => by rw [e28]; rfl) (by decide) ?_
      obtain ⟨v, σ', τ', q0, q1, R'⟩ := (m_dud (xs (i + 1).toNat).toInt) N σ τ R hN1
      exact lw_dud C (by omega) (by omega) hX hL hi hi6 hσ hτ q0 q1 (fun w1 w2 => nx x σ' τ' f CL.m hX hxl hF R' w1 w2)
    by_cases e29 : a = 29
    · refine J_switch C ra (tgt := 1311) dL_law_40 1271 (fun h => by omega) (fun _ _ => by rw [e29]; rfl) (by decide) ?_
      obtain ⟨v, σ', τ', q0, q1, R'⟩ := (m_strange) N σ τ R hN1
      exact lw_strange C (by omega) (by omega) hX hL hi hi6 hσ hτ q0 q1 (fun w1 w2 => nx x σ' τ' f CL.m hX hxl hF R' w1 w2)
    by_cases e30 : a = 30
    · refine J_switch C ra (tgt := 1324) dL_law_40 1284 (fun h => by omega) (fun _ _ => by rw [e30]; rfl) (by decide) ?_
      obtain ⟨v, σ', τ', q0, q1, R'⟩ := (m_tape (xs (i + 1).toNat).toInt (xs (i + 2).toNat).toInt (xs (i + 3).toNat).toInt) N σ τ R hN1
      exact lw_tape C (by omega) (by omega) hX hL hi hi6 hσ hτ q0 q1 (fun w1 w2 => nx x σ' τ' f CL.m hX hxl hF R' w1 w2)
    by_cases e31 : a = 31
    · refine J_switch C ra (tgt := 1373) dL_law_40 1333 (fun h => by omega) (fun _ _ => by rw [e31]; rfl) (by decide) ?_
      obtain ⟨v, σ', τ', q0, q1, R'⟩ := (m_keep (xs (i + 1).toNat).toInt) N σ τ R hN1
      exact lw_keep C (by omega) (by omega) hX hL hi hi6 hσ hτ q0 q1 (fun w1 w2 => nx x σ' τ' f CL.m hX hxl hF R' w1 w2)
    by_cases e32 : a = 32
    · refine J_switch C ra (tgt := 1398) dL_law_40 1358 (fun h => by omega) (fun _ _ => by rw [e32]; rfl) (by decide) ?_
      obtain ⟨v, σ', τ', q0, q1, R'⟩ := (m_back (xs (i + 1).toNat).toInt) N σ τ R hN1
      exact lw_back C (by omega) (by omega) hX hL hi hi6 hσ hτ q0 q1 (fun w1 w2 => nx x σ' τ' f CL.m hX hxl hF R' w1 w2)
    by_cases e33 : a = 33
    · refine J_switch C ra (tgt := 1423) dL_law_40 1383 (fun h => by omega) (fun _ _ => by rw [e33]; rfl) (by decide) ?_
      obtain ⟨v, σ', τ', q0, q1, R'⟩ := (m_toss (xs (i + 1).toNat).toInt) N σ τ R hN1
      exact lw_toss C C2 hlt hxl (by omega) (by omega) hX hL hi hi6 hσ hτ q0 q1 (fun w1 w2 => nx (bump x 1 6) σ' τ' f CL.b (hX.bump 1 6) hxl (hb x hF) R' w1 w2)
    by_cases e34 : a = 34
    · refine J_switch C ra (tgt := 1448) dL_law_40 1408 (fun h => by omega) (fun _ _ => by rw [e34]; rfl) (by decide) ?_
      obtain ⟨v, σ', τ', q0, q1, R'⟩ := (m_clear (xs (i + 1).toNat).toInt) N σ τ R hN1
      exact lw_clear C (by omega) (by omega) hX hL hi hi6 hσ hτ q0 q1 (fun w1 w2 => nx x σ' τ' f CL.m hX hxl hF R' w1 w2)
    by_cases e35 : a = 35
    · refine J_switch C ra (tgt := 1473) dL_law_40 1433 (fun h => by omega) (fun _ _ => by rw [e35]; rfl) (by decide) ?_
      obtain ⟨v, σ', τ', q0, q1, R'⟩ := (m_put (xs (i + 1).toNat).toInt (xs (i + 2).toNat).toInt (lngW (xs (i + 3).toNat).toInt (xs (i + 4).toNat).toInt)) N σ τ R hN1
      exact lw_put C (by omega) (by omega) hX hL hi hi6 hσ hτ q0 q1 (fun w1 w2 => nx x σ' τ' f CL.m hX hxl hF R' w1 w2)
    by_cases e36 : a = 36
    · refine J_switch C ra (tgt := 1554) dL_law_40 1514 (fun h => by omega) (fun _ _ => by rw [e36]; rfl) (by decide) ?_
      obtain ⟨v, τ', q1, R', h⟩ := (m_at (xs (i + 1).toNat).toInt (xs (i + 2).toNat).toInt) N σ τ R
      exact lw_at C C2 hlt hxl (by omega) (by omega) hX hL hi hi6 hσ hτ q1 h (fun f' w1 w2 => nx (bump x 1 6) σ τ' f' CL.b (hX.bump 1 6) hxl (hb x hF) R'.up w1 w2)
    by_cases e37 : a = 37
    · refine J_switch C ra (tgt := 1621) dL_law_40 1581 (fun h => by omega) (fun _ _ => by rw [e37]; rfl) (by decide) ?_
      obtain ⟨v, σ', τ', q0, q1, R'⟩ := (m_copy (rg_toInt32 _) (rg_toInt32 _) : Mt (fX11_copy (xs (i + 1).toNat).toInt (xs (i + 2).toNat).toInt (xs (i + 3).toNat).toInt (xs (i + 4).toNat).toInt (xs (i + 5).toNat).toInt) (fX12_copy (xs (i + 1).toNat).toInt (xs (i + 2).toNat).toInt (xs (i + 3).toNat).toInt (xs (i + 4).toNat).toInt (xs (i + 5).toNat).toInt)) N σ τ R hN1
      exact lw_copy C (by omega) (by omega) hX hL hi hi6 hσ hτ q0 q1 (fun w1 w2 => nx x σ' τ' f CL.m hX hxl hF R' w1 w2)
    by_cases e38 : a = 38
    · refine J_switch C ra (tgt := 1694) dL_law_40 1654 (fun h => by omega) (fun _ _ => by rw [e38]; rfl) (by decide) ?_
      obtain ⟨v, q0, q1⟩ := (m_count (xs (i + 1).toNat).toInt) N σ τ R
      exact lw_count C (by omega) (by omega) hX hL hi hi6 hσ hτ q0 q1 (fun w1 w2 => nx x σ τ f CL.m hX hxl hF R.up w1 w2)
    refine J_switch C ra (tgt := 1719) dL_law_40 1679 (fun _ => rfl) (fun h1 h2 => by omega) (by decide) ?_
    exact nx x σ τ f CL.m hX hxl hF R.up hσ hτ
