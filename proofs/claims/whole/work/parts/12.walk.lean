set_option maxRecDepth 100000 in
set_option maxHeartbeats 4000000 in
theorem wX3_search_L46 {x : Ct} {g : Gm} (d : Nat) (C : Cx x yC g 4 cX3_search RX3 (3 + (d + 1)) (64 + 23 * (d + 1))) (slf : Int → Int → Sg → Option (Sg)) (hslf : ∀ (x1 : Int) (h1 : rg x1) (x2 : Int) (h2 : rg x2) (σ : Sg) (hσ : wfS yC σ) (q : Sg) (h : slf x1 x2 σ = some q), CJ x.2.1 yC g yX3_search cX3_search 4 none (3 + d) (64 + 23 * d) [.ref (gad g 32), vi x1, vi x2] σ none q (wfS yC q)) : ∀ (n : Nat) (x1 : Int) (h1 : rg x1) (x2 : Int) (h2 : rg x2) (x3 : Int) (h3 : rg x3) (σ : Sg) (hσ : wfS yC σ) (q : Sg) (h : fX3_search_L46 slf n x1 x2 x3 σ = some q) (k : wfS yC q → J x yC g 4 95 [] [] q), J x yC g 4 46 [(0, .ref (gad g 32)), (1, vi x1), (2, vi x2), (3, vi x3)] [] σ := by
  intro n
  induction n with
  | zero =>
    intro x1 h1 x2 h2 x3 h3 σ hσ q h k
    exact absurd h (by intro z; cases z)
  | succ n ih =>
    intro x1 h1 x2 h2 x3 h3 σ hσ q h k
    rw [fX3_search_L46] at h
    have pc12 : ∀ (x3 : Int) (h3 : rg x3) (σ : Sg) (hσ : wfS yC σ), fX3_search_L46P89 slf (fX3_search_L46 slf n) x1 x2 x3 σ = some q → J x yC g 4 89 [(0, .ref (gad g 32)), (1, vi x1), (2, vi x2), (3, vi x3)] [] σ := by
      intro x3 h3 σ hσ h
      unfold fX3_search_L46P89 at h
      refine J_iinc C 3 3 dX3_search_89 rfl (by decide) h (fun v13 hv14 h => ?_)
      refine J_goto C (tgt := 46) dX3_search_92 (by decide) ?_
      exact J_sub [1, 2, 3, 0] rfl (ih x1 h1 x2 h2 v13 hv14 σ hσ q h k)
    refine J_iload_n C 3 dX3_search_46 rfl 3 rfl ?_
    refine J_bipush C dX3_search_47 (bp8 (by decide) (by decide)) ?_
    refine J_icmp_ge C h3 rl_6 (tgt := 95) dX3_search_49 (by decide) h (fun h c28 => ?_) (fun h c28 => ?_)
    · refine J_aload_n C 0 dX3_search_52 rfl 0 rfl ?_
      refine J_iload_n C 1 dX3_search_53 rfl 1 rfl ?_
      refine J_iload_n C 3 dX3_search_54 rfl 3 rfl ?_
      obtain ⟨q10, cq10, h⟩ := bdS h
      refine J_callV C mw_X3_mayChoose ml_RX3_114 (m_X3_mayChoose x.2.1 g (CxI C) x1 h1 x3 h3 σ hσ q10 cq10) oC_32 rfl (by omega) (by omega) rfl rfl (Nat.le_of_ble_eq_true rfl) dX3_search_55 (fun hz11 => ?_)
      refine J_if_eq C (rg01 hz11) (tgt := 89) dX3_search_58 (by decide) h (fun h c27 => ?_) (fun h c27 => ?_)
      · exact J_sub [0, 1, 2, 3] rfl (pc12 x3 h3 σ hσ h)
      · refine J_aload_n C 0 dX3_search_61 rfl 0 rfl ?_
        refine J_iload_n C 1 dX3_search_62 rfl 1 rfl ?_
        refine J_iload_n C 3 dX3_search_63 rfl 3 rfl ?_
        obtain ⟨q17, cq17, h⟩ := bdS h
        refine J_callV C mw_X3_choose ml_RX3_117 (m_X3_choose x.2.1 g (CxI C) x1 h1 x3 h3 σ hσ q17 cq17) oC_32 rfl (by omega) (by omega) rfl rfl (Nat.le_of_ble_eq_true rfl) dX3_search_64 (fun hz18 => ?_)
        refine J_aload_n C 0 dX3_search_67 rfl 0 rfl ?_
        refine J_iload_n C 1 dX3_search_68 rfl 1 rfl ?_
        refine J_iconst C dX3_search_69 ?_
        refine J_iadd C dX3_search_70 h (fun v19 hv20 h => ?_)
        refine J_iload_n C 2 dX3_search_71 rfl 2 rfl ?_
        refine J_aload_n C 0 dX3_search_72 rfl 0 rfl ?_
        refine J_iload_n C 3 dX3_search_73 rfl 3 rfl ?_
        obtain ⟨q21, cq21, h⟩ := bdS h
        refine J_callV C mw_X3_loadOf ml_RX3_138 (m_X3_loadOf x.2.1 g (CxI C) x3 h3 q17 hz18 q21 cq21) oC_32 rfl (by omega) (by omega) rfl rfl (Nat.le_of_ble_eq_true rfl) dX3_search_74 (fun hz22 => ?_)
        refine J_max C h2 hz22 mth_max ml_RX3_102 (by omega) (Nat.le_trans (m := 40) (Nat.le_of_ble_eq_true rfl) (by omega)) dX3_search_77 ?_
        obtain ⟨q23, cq23, h⟩ := bdS h
        refine J_callS C mw_X3_search ml_RX3_128 (hslf v19 hv20 (mxI x2 q21) (rg_mx h2 hz22) q17 hz18 q23 cq23) (by omega) (by omega) rfl rfl (Nat.le_of_ble_eq_true rfl) dX3_search_80 (fun hz24 => ?_)
        refine J_aload_n C 0 dX3_search_83 rfl 0 rfl ?_
        refine J_iload_n C 1 dX3_search_84 rfl 1 rfl ?_
        refine J_iload_n C 3 dX3_search_85 rfl 3 rfl ?_
        obtain ⟨q25, cq25, h⟩ := bdS h
        refine J_callV C mw_X3_unchoose ml_RX3_141 (m_X3_unchoose x.2.1 g (CxI C) x1 h1 x3 h3 q23 hz24 q25 cq25) oC_32 rfl (by omega) (by omega) rfl rfl (Nat.le_of_ble_eq_true rfl) dX3_search_86 (fun hz26 => ?_)
        exact J_sub [0, 1, 2, 3] rfl (pc12 x3 h3 q25 hz26 h)
    · have e9 := sE h
      subst e9
      exact J_sub [] rfl (k hσ)
set_option maxRecDepth 100000 in
set_option maxHeartbeats 4000000 in
theorem m_X3_search (l : Launch) (g : Gm) (hg : gInj yC g) : ∀ (d : Nat) (x1 : Int) (h1 : rg x1) (x2 : Int) (h2 : rg x2) (σ : Sg) (hσ : wfS yC σ) (q : Sg) (h : fX3_search d x1 x2 σ = some q), CJ l yC g yX3_search cX3_search 4 none (3 + d) (64 + 23 * d) [.ref (gad g 32), vi x1, vi x2] σ none q (wfS yC q) := by
  intro d
  induction d with
  | zero =>
    intro x1 h1 x2 h2 σ hσ q h
    exact absurd h (by intro z; cases z)
  | succ d ih =>
    intro x1 h1 x2 h2 σ hσ q h
    rw [fX3_search] at h
    refine CJ_ofL hg (by decide) rfl (Nat.le_of_ble_eq_true rfl) (lo := [(0, .ref (gad g 32)), (1, vi x1), (2, vi x2)]) rfl (fun x C E hxl => ?_)
    subst hxl
    have pc1 : ∀  (σ : Sg) (hσ : wfS yC σ), fX3_search_P23 (fX3_search d) x2 σ = some q → J x yC g 4 23 [(0, .ref (gad g 32)), (2, vi x2)] [] σ := by
      intro  σ hσ h
      unfold fX3_search_P23 at h
      refine J_aload_n C 0 dX3_search_23 rfl 0 rfl ?_
      refine J_iload_n C 2 dX3_search_24 rfl 1 rfl ?_
      refine J_putI C fl_RX3_121 fp_RX3_11 oC_32 rfl rfl lC_32 hσ h2 dX3_search_25 h (fun σ2 hσ3 h => ?_)
      refine J_aload_n C 0 dX3_search_28 rfl 0 rfl ?_
      refine J_getR C fl_RX3_28 oC_32 rfl dX3_search_29 ?_
      refine J_iconst C dX3_search_32 ?_
      refine J_aload_n C 0 dX3_search_33 rfl 0 rfl ?_
      refine J_getR C fl_RX3_31 oC_32 rfl dX3_search_34 ?_
      refine J_iconst C dX3_search_37 ?_
      refine J_bipush C dX3_search_38 (bp8 (by decide) (by decide)) ?_
      refine J_copyI C aC_38 aC_39 hσ3 rl_0 rl_0 rl_8 cpy_w ml_RX3_132 (by omega) (Nat.le_trans (m := 60) (Nat.le_of_ble_eq_true rfl) (by omega)) dX3_search_40 h (fun σ4 hσ5 h => ?_)
      have e9 := sE h
      subst e9
      exact J_vret C E hσ5 dX3_search_43
    refine J_iload_n C 2 dX3_search_0 rfl 2 rfl ?_
    refine J_aload_n C 0 dX3_search_1 rfl 0 rfl ?_
    refine J_getI C fl_RX3_121 oC_32 rfl dX3_search_2 ?_
    refine J_icmp_lt C h2 (hσ 32 11 lC_32) (tgt := 9) dX3_search_5 (by decide) h (fun h c33 => ?_) (fun h c33 => ?_)
    · refine J_iload_n C 1 dX3_search_9 rfl 1 rfl ?_
      refine J_aload_n C 0 dX3_search_10 rfl 0 rfl ?_
      refine J_getI C fl_RX3_46 oC_32 rfl dX3_search_11 ?_
      refine J_icmp_ge C h1 (hσ 32 10 lC_32) (tgt := 23) dX3_search_14 (by decide) h (fun h c32 => ?_) (fun h c32 => ?_)
      · refine J_iload_n C 1 dX3_search_17 rfl 1 rfl ?_
        refine J_bipush C dX3_search_18 (bp8 (by decide) (by decide)) ?_
        refine J_icmp_lt C h1 rl_8 (tgt := 44) dX3_search_20 (by decide) h (fun h c31 => ?_) (fun h c31 => ?_)
        · refine J_iconst C dX3_search_44 ?_
          refine J_istore_n (lo2 := [(3, vi 0), (0, .ref (gad g 32)), (1, vi x1), (2, vi x2)]) C 3 dX3_search_45 rfl (by decide) rfl ?_
          obtain ⟨q29, cq29, h⟩ := bdS h
          refine J_sub [1, 2, 3, 0] rfl (wX3_search_L46 d C (fX3_search d) ih fu x1 h1 x2 h2 0 rl_0 σ hσ q29 cq29 (fun hσ30 => ?_))
          have e9 := sE h
          subst e9
          exact J_vret C E hσ30 dX3_search_95
        · exact J_sub [0, 2] rfl (pc1 σ hσ h)
      · exact J_sub [0, 2] rfl (pc1 σ hσ h)
    · have e9 := sE h
      subst e9
      exact J_vret C E hσ dX3_search_8
set_option maxRecDepth 100000 in
set_option maxHeartbeats 4000000 in
theorem m_X3_findBest (l : Launch) (g : Gm) (hg : gInj yC g)  (σ : Sg) (hσ : wfS yC σ) (q : Int × Sg) (h : fX3_findBest  σ = some q) : CJ l yC g yX3_findBest cX3_findBest 1 (some .boolean) 14 317 [.ref (gad g 32)] σ (some (vi q.1)) q.2 ((q.1 = 0 ∨ q.1 = 1) ∧ wfS yC q.2) := by
  refine CJ_of hg (by decide) rfl (Nat.le_of_ble_eq_true rfl) (lo := [(0, .ref (gad g 32))]) rfl (fun x C E => ?_)
  unfold fX3_findBest at h
  refine J_aload_n C 0 dX3_findBest_0 rfl 0 rfl ?_
  refine J_bipush C dX3_findBest_1 (bp8 (by decide) (by decide)) ?_
  refine J_putI C fl_RX3_121 fp_RX3_11 oC_32 rfl rfl lC_32 hσ rl_121 dX3_findBest_3 h (fun σ1 hσ2 h => ?_)
  refine J_aload_n C 0 dX3_findBest_6 rfl 0 rfl ?_
  refine J_iconst C dX3_findBest_7 ?_
  refine J_aload_n C 0 dX3_findBest_8 rfl 0 rfl ?_
  obtain ⟨q3, cq3, h⟩ := bdS h
  refine J_callV C mw_X3_mostLoad ml_RX3_124 (m_X3_mostLoad x.2.1 g (CxI C) σ1 hσ2 q3 cq3) oC_32 rfl (Nat.le_of_ble_eq_true rfl) (Nat.le_of_ble_eq_true rfl) rfl rfl (Nat.le_of_ble_eq_true rfl) dX3_findBest_9 (fun hz4 => ?_)
  obtain ⟨q5, cq5, h⟩ := bdS h
  refine J_callS C mw_X3_search ml_RX3_128 (m_X3_search x.2.1 g (CxI C) 10 0 rl_0 q3 hz4 σ1 hσ2 q5 cq5) (Nat.le_of_ble_eq_true rfl) (Nat.le_of_ble_eq_true rfl) rfl rfl (Nat.le_of_ble_eq_true rfl) dX3_findBest_12 (fun hz6 => ?_)
  refine J_aload_n C 0 dX3_findBest_15 rfl 0 rfl ?_
  refine J_getI C fl_RX3_121 oC_32 rfl dX3_findBest_16 ?_
  refine J_bipush C dX3_findBest_19 (bp8 (by decide) (by decide)) ?_
  refine J_icmp_gt C (hz6 32 11 lC_32) rl_120 (tgt := 28) dX3_findBest_21 (by decide) h (fun h c7 => ?_) (fun h c7 => ?_)
  · refine J_iconst C dX3_findBest_24 ?_
    refine J_goto C (tgt := 29) dX3_findBest_25 (by decide) ?_
    have e9 := sE h
    subst e9
    exact J_zret C (Or.inr rfl) E ⟨(Or.inr rfl), hz6⟩ dX3_findBest_29
  · refine J_iconst C dX3_findBest_28 ?_
    have e9 := sE h
    subst e9
    exact J_zret C (Or.inl rfl) E ⟨(Or.inl rfl), hz6⟩ dX3_findBest_29
set_option maxRecDepth 100000 in
set_option maxHeartbeats 4000000 in
theorem m_X1_setBarge (l : Launch) (g : Gm) (hg : gInj yC g) (x0 : Nat) (h0 : isCues x0) (x1 : Int) (h1 : rg x1) (x2 : Int) (h2 : rg x2) (σ : Sg) (hσ : wfS yC σ) (q : Sg) (h : fX1_setBarge x0 x1 x2 σ = some q) : CJ l yC g yX1_setBarge cX1_setBarge 3 none 1 21 [.ref (gad g x0), vi x1, vi x2] σ none q (wfS yC q) := by
  refine CJ_of hg (by decide) rfl (Nat.le_of_ble_eq_true rfl) (lo := [(0, .ref (gad g x0)), (1, vi x1), (2, vi x2)]) rfl (fun x C E => ?_)
  unfold fX1_setBarge at h
  refine J_aload_n C 0 dX1_setBarge_0 rfl 0 rfl ?_
  refine J_iload_n C 1 dX1_setBarge_1 rfl 1 rfl ?_
  obtain ⟨q1, cq1, h⟩ := bdS h
  refine J_callV C mw_X1_isCue ml_RX1_28 (m_X1_isCue x.2.1 g (CxI C) x0 h0 x1 h1 σ hσ q1 cq1) h0.1 rfl (Nat.le_of_ble_eq_true rfl) (Nat.le_of_ble_eq_true rfl) rfl rfl (Nat.le_of_ble_eq_true rfl) dX1_setBarge_2 (fun hz2 => ?_)
  refine J_if_eq C (rg01 hz2) (tgt := 15) dX1_setBarge_5 (by decide) h (fun h c5 => ?_) (fun h c5 => ?_)
  · have e9 := sE h
    subst e9
    exact J_vret C E hσ dX1_setBarge_15
  · refine J_aload_n C 0 dX1_setBarge_8 rfl 0 rfl ?_
    refine J_getR C fl_RX1_18 h0.1 rfl dX1_setBarge_9 ?_
    refine J_iload_n C 1 dX1_setBarge_12 rfl 1 rfl ?_
    refine J_iload_n C 2 dX1_setBarge_13 rfl 2 rfl ?_
    refine J_iast C (h0).2.2.2.2.1 hσ h2 dX1_setBarge_14 h (fun σ3 hσ4 h => ?_)
    have e9 := sE h
    subst e9
    exact J_vret C E hσ4 dX1_setBarge_15
set_option maxRecDepth 100000 in
set_option maxHeartbeats 4000000 in
theorem wX3_giveBest_L2 {x : Ct} {g : Gm} (C : Cx x yC g 2 cX3_giveBest RX3 2 43) : ∀ (n : Nat) (x1 : Int) (h1 : rg x1) (σ : Sg) (hσ : wfS yC σ) (q : Sg) (h : fX3_giveBest_L2 n x1 σ = some q) (k : wfS yC q → J x yC g 2 41 [] [] q), J x yC g 2 2 [(0, .ref (gad g 32)), (1, vi x1)] [] σ := by
  intro n
  induction n with
  | zero =>
    intro x1 h1 σ hσ q h k
    exact absurd h (by intro z; cases z)
  | succ n ih =>
    intro x1 h1 σ hσ q h k
    rw [fX3_giveBest_L2] at h
    refine J_iload_n C 1 dX3_giveBest_2 rfl 1 rfl ?_
    refine J_aload_n C 0 dX3_giveBest_3 rfl 0 rfl ?_
    refine J_getI C fl_RX3_46 oC_32 rfl dX3_giveBest_4 ?_
    refine J_icmp_ge C h1 (hσ 32 10 lC_32) (tgt := 41) dX3_giveBest_7 (by decide) h (fun h c10 => ?_) (fun h c10 => ?_)
    · refine J_iload_n C 1 dX3_giveBest_10 rfl 1 rfl ?_
      refine J_bipush C dX3_giveBest_11 (bp8 (by decide) (by decide)) ?_
      refine J_icmp_ge C h1 rl_8 (tgt := 41) dX3_giveBest_13 (by decide) h (fun h c9 => ?_) (fun h c9 => ?_)
      · refine J_aload_n C 0 dX3_giveBest_16 rfl 0 rfl ?_
        refine J_getR C fl_RX3_38 oC_32 rfl dX3_giveBest_17 ?_
        refine J_aload_n C 0 dX3_giveBest_20 rfl 0 rfl ?_
        refine J_getR C fl_RX3_9 oC_32 rfl dX3_giveBest_21 ?_
        refine J_iload_n C 1 dX3_giveBest_24 rfl 1 rfl ?_
        refine J_iald C aC_33 hσ dX3_giveBest_25 h (fun v1 hv2 h => ?_)
        refine J_aload_n C 0 dX3_giveBest_26 rfl 0 rfl ?_
        refine J_getR C fl_RX3_31 oC_32 rfl dX3_giveBest_27 ?_
        refine J_iload_n C 1 dX3_giveBest_30 rfl 1 rfl ?_
        refine J_iald C aC_39 hσ dX3_giveBest_31 h (fun v3 hv4 h => ?_)
        obtain ⟨q5, cq5, h⟩ := bdS h
        refine J_callV C mw_X1_setBarge ml_RX3_144 (m_X1_setBarge x.2.1 g (CxI C) 19 cues_19 v1 hv2 v3 hv4 σ hσ q5 cq5) cues_19.1 rfl (Nat.le_of_ble_eq_true rfl) (Nat.le_of_ble_eq_true rfl) rfl rfl (Nat.le_of_ble_eq_true rfl) dX3_giveBest_32 (fun hz6 => ?_)
        refine J_iinc C 1 1 dX3_giveBest_35 rfl (by decide) h (fun v7 hv8 h => ?_)
        refine J_goto C (tgt := 2) dX3_giveBest_38 (by decide) ?_
        exact J_sub [1, 0] rfl (ih v7 hv8 q5 hz6 q h k)
      · have e9 := sE h
        subst e9
        exact J_sub [] rfl (k hσ)
    · have e9 := sE h
      subst e9
      exact J_sub [] rfl (k hσ)
set_option maxRecDepth 100000 in
set_option maxHeartbeats 4000000 in
theorem m_X3_giveBest (l : Launch) (g : Gm) (hg : gInj yC g)  (σ : Sg) (hσ : wfS yC σ) (q : Sg) (h : fX3_giveBest  σ = some q) : CJ l yC g yX3_giveBest cX3_giveBest 2 none 2 43 [.ref (gad g 32)] σ none q (wfS yC q) := by
  refine CJ_of hg (by decide) rfl (Nat.le_of_ble_eq_true rfl) (lo := [(0, .ref (gad g 32))]) rfl (fun x C E => ?_)
  unfold fX3_giveBest at h
  refine J_iconst C dX3_giveBest_0 ?_
  refine J_istore_n (lo2 := [(1, vi 0), (0, .ref (gad g 32))]) C 1 dX3_giveBest_1 rfl (by decide) rfl ?_
  obtain ⟨q11, cq11, h⟩ := bdS h
  refine J_sub [1, 0] rfl (wX3_giveBest_L2 C fu 0 rl_0 σ hσ q11 cq11 (fun hσ12 => ?_))
  have e9 := sE h
  subst e9
  exact J_vret C E hσ12 dX3_giveBest_41
set_option maxRecDepth 100000 in
set_option maxHeartbeats 4000000 in
theorem m_X11_lay (l : Launch) (g : Gm) (hg : gInj yC g) (x1 : Int) (h1 : rg x1) (σ : Sg) (hσ : wfS yC σ) (q : Int × Sg) (h : fX11_lay x1 σ = some q) : CJ l yC g yX11_lay cX11_lay 2 (some .int) 15 337 [.ref (gad g 0), vi x1] σ (some (vi q.1)) q.2 ((rg q.1) ∧ wfS yC q.2) := by
  refine CJ_of hg (by decide) rfl (Nat.le_of_ble_eq_true rfl) (lo := [(0, .ref (gad g 0)), (1, vi x1)]) rfl (fun x C E => ?_)
  unfold fX11_lay at h
  refine J_iload_n C 1 dX11_lay_0 rfl 1 rfl ?_
  refine J_if_lt C h1 (tgt := 9) dX11_lay_1 (by decide) h (fun h c12 => ?_) (fun h c12 => ?_)
  · refine J_iconst C dX11_lay_9 ?_
    have e9 := sE h
    subst e9
    exact J_iret C E ⟨rl_m1, hσ⟩ dX11_lay_10
  · refine J_iload_n C 1 dX11_lay_4 rfl 1 rfl ?_
    refine J_iconst C dX11_lay_5 ?_
    refine J_icmp_le C h1 rl_4 (tgt := 11) dX11_lay_6 (by decide) h (fun h c11 => ?_) (fun h c11 => ?_)
    · refine J_aload_n C 0 dX11_lay_11 rfl 0 rfl ?_
      refine J_getR C fl_RX11_19 oC_0 rfl dX11_lay_12 ?_
      obtain ⟨q1, cq1, h⟩ := bdS h
      refine J_callV C mw_X1_openOnes ml_RX11_234 (m_X1_openOnes x.2.1 g (CxI C) 19 cues_19 σ hσ q1 cq1) cues_19.1 rfl (Nat.le_of_ble_eq_true rfl) (Nat.le_of_ble_eq_true rfl) rfl rfl (Nat.le_of_ble_eq_true rfl) dX11_lay_15 (fun hz2 => ?_)
      refine J_bipush C dX11_lay_18 (bp8 (by decide) (by decide)) ?_
      refine J_icmp_le C hz2 rl_8 (tgt := 26) dX11_lay_20 (by decide) h (fun h c10 => ?_) (fun h c10 => ?_)
      · refine J_aload_n C 0 dX11_lay_26 rfl 0 rfl ?_
        refine J_getR C fl_RX11_37 oC_0 rfl dX11_lay_27 ?_
        refine J_aload_n C 0 dX11_lay_30 rfl 0 rfl ?_
        refine J_getI C fl_RX11_80 oC_0 rfl dX11_lay_31 ?_
        refine J_iload_n C 1 dX11_lay_34 rfl 1 rfl ?_
        obtain ⟨q3, cq3, h⟩ := bdS h
        refine J_callV C mw_X3_prepare ml_RX11_238 (m_X3_prepare x.2.1 g (CxI C) (σ 0 9) (hσ 0 9 lC_0) x1 h1 σ hσ q3 cq3) oC_32 rfl (Nat.le_of_ble_eq_true rfl) (Nat.le_of_ble_eq_true rfl) rfl rfl (Nat.le_of_ble_eq_true rfl) dX11_lay_35 (fun hz4 => ?_)
        refine J_aload_n C 0 dX11_lay_38 rfl 0 rfl ?_
        refine J_getR C fl_RX11_37 oC_0 rfl dX11_lay_39 ?_
        obtain ⟨q5, cq5, h⟩ := bdS h
        refine J_callV C mw_X3_findBest ml_RX11_241 (m_X3_findBest x.2.1 g (CxI C) q3 hz4 q5 cq5) oC_32 rfl (Nat.le_of_ble_eq_true rfl) (Nat.le_of_ble_eq_true rfl) rfl rfl (Nat.le_of_ble_eq_true rfl) dX11_lay_42 (fun hz6 => ?_)
        refine J_if_ne C (rg01 hz6.1) (tgt := 51) dX11_lay_45 (by decide) h (fun h c9 => ?_) (fun h c9 => ?_)
        · refine J_bipush C dX11_lay_48 (bp8 (by decide) (by decide)) ?_
          have e9 := sE h
          subst e9
          exact J_iret C E ⟨rl_m3, hz6.2⟩ dX11_lay_50
        · refine J_aload_n C 0 dX11_lay_51 rfl 0 rfl ?_
          refine J_getR C fl_RX11_37 oC_0 rfl dX11_lay_52 ?_
          obtain ⟨q7, cq7, h⟩ := bdS h
          refine J_callV C mw_X3_giveBest ml_RX11_245 (m_X3_giveBest x.2.1 g (CxI C) q5.2 hz6.2 q7 cq7) oC_32 rfl (Nat.le_of_ble_eq_true rfl) (Nat.le_of_ble_eq_true rfl) rfl rfl (Nat.le_of_ble_eq_true rfl) dX11_lay_55 (fun hz8 => ?_)
          refine J_aload_n C 0 dX11_lay_58 rfl 0 rfl ?_
          refine J_getR C fl_RX11_37 oC_0 rfl dX11_lay_59 ?_
          refine J_getI C fl_RX11_248 oC_32 rfl dX11_lay_62 ?_
          have e9 := sE h
          subst e9
          exact J_iret C E ⟨(hz8 32 11 lC_32), hz8⟩ dX11_lay_65
      · refine J_bipush C dX11_lay_23 (bp8 (by decide) (by decide)) ?_
        have e9 := sE h
        subst e9
        exact J_iret C E ⟨rl_m4, hσ⟩ dX11_lay_25
    · refine J_iconst C dX11_lay_9 ?_
      have e9 := sE h
      subst e9
      exact J_iret C E ⟨rl_m1, hσ⟩ dX11_lay_10
set_option maxRecDepth 100000 in
set_option maxHeartbeats 4000000 in
theorem wX3_firstBroken_L2 {x : Ct} {g : Gm} (C : Cx x yC g 4 cX3_firstBroken RX3 3 64) : ∀ (n : Nat) (x1 : Nat) (h1 : isTape x1) (x2 : Int) (h2 : rg x2) (σ : Sg) (hσ : wfS yC σ) (q : (Int × Sg) ⊕ (Sg)) (h : fX3_firstBroken_L2 n x1 x2 σ = some q) (k0 : ∀ a : Int × Sg, q = .inl a → rg a.1 → wfS yC a.2 → J x yC g 4 33 [(2, vi a.1)] [] a.2) (k1 : ∀ a : Sg, q = .inr a → wfS yC a → J x yC g 4 47 [] [] a), J x yC g 4 2 [(0, .ref (gad g 32)), (1, .ref (gad g x1)), (2, vi x2)] [] σ := by
  intro n
  induction n with
  | zero =>
    intro x1 h1 x2 h2 σ hσ q h k0 k1
    exact absurd h (by intro z; cases z)
  | succ n ih =>
    intro x1 h1 x2 h2 σ hσ q h k0 k1
    rw [fX3_firstBroken_L2] at h
    refine J_iload_n C 2 dX3_firstBroken_2 rfl 2 rfl ?_
    refine J_aload_n C 0 dX3_firstBroken_3 rfl 0 rfl ?_
    refine J_getI C fl_RX3_46 oC_32 rfl dX3_firstBroken_4 ?_
    refine J_icmp_ge C h2 (hσ 32 10 lC_32) (tgt := 47) dX3_firstBroken_7 (by decide) h (fun h c11 => ?_) (fun h c11 => ?_)
    · refine J_iload_n C 2 dX3_firstBroken_10 rfl 2 rfl ?_
      refine J_aload_n C 1 dX3_firstBroken_11 rfl 1 rfl ?_
      refine J_getI C fl_RX3_106 h1.1 rfl dX3_firstBroken_12 ?_
      refine J_icmp_ge C h2 (hσ x1 1 h1.2.1) (tgt := 47) dX3_firstBroken_15 (by decide) h (fun h c10 => ?_) (fun h c10 => ?_)
      · refine J_aload_n C 1 dX3_firstBroken_18 rfl 1 rfl ?_
        refine J_iload_n C 2 dX3_firstBroken_19 rfl 2 rfl ?_
        obtain ⟨q1, cq1, h⟩ := bdS h
        refine J_callV C mw_X9_numberAt ml_RX3_111 (m_X9_numberAt x.2.1 g (CxI C) x1 h1 x2 h2 σ hσ q1 cq1) h1.1 rfl (Nat.le_of_ble_eq_true rfl) (Nat.le_of_ble_eq_true rfl) rfl rfl (Nat.le_of_ble_eq_true rfl) dX3_firstBroken_20 (fun hz2 => ?_)
        refine J_istore_n (lo2 := [(3, vi q1), (0, .ref (gad g 32)), (1, .ref (gad g x1)), (2, vi x2)]) C 3 dX3_firstBroken_23 rfl (by decide) rfl ?_
        refine J_aload_n C 0 dX3_firstBroken_24 rfl 1 rfl ?_
        refine J_iload_n C 2 dX3_firstBroken_25 rfl 3 rfl ?_
        refine J_iload_n C 3 dX3_firstBroken_26 rfl 0 rfl ?_
        obtain ⟨q3, cq3, h⟩ := bdS h
        refine J_callV C mw_X3_mayChoose ml_RX3_114 (m_X3_mayChoose x.2.1 g (CxI C) x2 h2 q1 hz2 σ hσ q3 cq3) oC_32 rfl (Nat.le_of_ble_eq_true rfl) (Nat.le_of_ble_eq_true rfl) rfl rfl (Nat.le_of_ble_eq_true rfl) dX3_firstBroken_27 (fun hz4 => ?_)
        refine J_if_ne C (rg01 hz4) (tgt := 35) dX3_firstBroken_30 (by decide) h (fun h c9 => ?_) (fun h c9 => ?_)
        · have e9 := sE h
          exact J_sub [3] rfl (k0 (x2, σ) e9.symm h2 hσ)
        · refine J_aload_n C 0 dX3_firstBroken_35 rfl 1 rfl ?_
          refine J_iload_n C 2 dX3_firstBroken_36 rfl 3 rfl ?_
          refine J_iload_n C 3 dX3_firstBroken_37 rfl 0 rfl ?_
          obtain ⟨q5, cq5, h⟩ := bdS h
          refine J_callV C mw_X3_choose ml_RX3_117 (m_X3_choose x.2.1 g (CxI C) x2 h2 q1 hz2 σ hσ q5 cq5) oC_32 rfl (Nat.le_of_ble_eq_true rfl) (Nat.le_of_ble_eq_true rfl) rfl rfl (Nat.le_of_ble_eq_true rfl) dX3_firstBroken_38 (fun hz6 => ?_)
          refine J_iinc C 2 3 dX3_firstBroken_41 rfl (by decide) h (fun v7 hv8 h => ?_)
          refine J_goto C (tgt := 2) dX3_firstBroken_44 (by decide) ?_
          exact J_sub [2, 3, 0] rfl (ih x1 h1 v7 hv8 q5 hz6 q h k0 k1)
      · have e9 := sE h
        exact J_sub [] rfl (k1 σ e9.symm hσ)
    · have e9 := sE h
      exact J_sub [] rfl (k1 σ e9.symm hσ)
set_option maxRecDepth 100000 in
set_option maxHeartbeats 4000000 in
theorem m_X3_firstBroken (l : Launch) (g : Gm) (hg : gInj yC g) (x1 : Nat) (h1 : isTape x1) (σ : Sg) (hσ : wfS yC σ) (q : Int × Sg) (h : fX3_firstBroken x1 σ = some q) : CJ l yC g yX3_firstBroken cX3_firstBroken 4 (some .int) 3 64 [.ref (gad g 32), .ref (gad g x1)] σ (some (vi q.1)) q.2 ((rg q.1) ∧ wfS yC q.2) := by
  refine CJ_of hg (by decide) rfl (Nat.le_of_ble_eq_true rfl) (lo := [(0, .ref (gad g 32)), (1, .ref (gad g x1))]) rfl (fun x C E => ?_)
  unfold fX3_firstBroken at h
  refine J_iconst C dX3_firstBroken_0 ?_
  refine J_istore_n (lo2 := [(2, vi 0), (0, .ref (gad g 32)), (1, .ref (gad g x1))]) C 2 dX3_firstBroken_1 rfl (by decide) rfl ?_
  obtain ⟨q12, cq12, h⟩ := bdS h
  refine J_sub [1, 2, 0] rfl (wX3_firstBroken_L2 C fu x1 h1 0 rl_0 σ hσ q12 cq12 (fun a13 ea13 hr14 hσ15 => ?_) (fun a16 ea16 hσ17 => ?_))
  · subst ea13
    have h := elL h
    refine J_iload_n C 2 dX3_firstBroken_33 rfl 0 rfl ?_
    have e9 := sE h
    subst e9
    exact J_iret C E ⟨hr14, hσ15⟩ dX3_firstBroken_34
  · subst ea16
    have h := elR h
    refine J_iconst C dX3_firstBroken_47 ?_
    have e9 := sE h
    subst e9
    exact J_iret C E ⟨rl_m1, hσ17⟩ dX3_firstBroken_48
set_option maxRecDepth 100000 in
set_option maxHeartbeats 4000000 in
theorem m_X11_proof (l : Launch) (g : Gm) (hg : gInj yC g) (x1 : Int) (h1 : rg x1) (x2 : Int) (h2 : rg x2) (σ : Sg) (hσ : wfS yC σ) (q : Int × Sg) (h : fX11_proof x1 x2 σ = some q) : CJ l yC g yX11_proof cX11_proof 6 (some .int) 6 150 [.ref (gad g 0), vi x1, vi x2] σ (some (vi q.1)) q.2 ((rg q.1) ∧ wfS yC q.2) := by
  refine CJ_of hg (by decide) rfl (Nat.le_of_ble_eq_true rfl) (lo := [(0, .ref (gad g 0)), (1, vi x1), (2, vi x2)]) rfl (fun x C E => ?_)
  unfold fX11_proof at h
  refine J_aload_n C 0 dX11_proof_0 rfl 0 rfl ?_
  refine J_iload_n C 1 dX11_proof_1 rfl 1 rfl ?_
  rcases lt_or h with ⟨c1, h⟩ | ⟨c1, h⟩
  · refine J_callV C mw_X11_tapeAt ml_RX11_171 (m_X11_tapeAt1 x.2.1 g (CxI C) x1 h1 σ hσ c1) oC_0 rfl (Nat.le_of_ble_eq_true rfl) (Nat.le_of_ble_eq_true rfl) rfl rfl (Nat.le_of_ble_eq_true rfl) dX11_proof_2 (fun _ => ?_)
    refine J_astore_n (lo2 := [(3, .ref (gad g (tpO x1))), (0, .ref (gad g 0)), (1, vi x1), (2, vi x2)]) C 3 dX11_proof_5 rfl (by decide) rfl ?_
    refine J_aload_n C 3 dX11_proof_6 rfl 0 rfl ?_
    refine J_isnull C dX11_proof_7 ?_
    refine J_iload_n C 2 dX11_proof_10 rfl 3 rfl ?_
    refine J_if_lt C h2 (tgt := 19) dX11_proof_11 (by decide) h (fun h c23 => ?_) (fun h c23 => ?_)
    · refine J_iconst C dX11_proof_19 ?_
      have e9 := sE h
      subst e9
      exact J_iret C E ⟨rl_m1, hσ⟩ dX11_proof_20
    · refine J_iload_n C 2 dX11_proof_14 rfl 3 rfl ?_
      refine J_iconst C dX11_proof_15 ?_
      refine J_icmp_le C h2 rl_4 (tgt := 21) dX11_proof_16 (by decide) h (fun h c22 => ?_) (fun h c22 => ?_)
      · refine J_aload_n C 0 dX11_proof_21 rfl 1 rfl ?_
        refine J_getR C fl_RX11_19 oC_0 rfl dX11_proof_22 ?_
        obtain ⟨q2, cq2, h⟩ := bdS h
        refine J_callV C mw_X1_openOnes ml_RX11_234 (m_X1_openOnes x.2.1 g (CxI C) 19 cues_19 σ hσ q2 cq2) cues_19.1 rfl (Nat.le_of_ble_eq_true rfl) (Nat.le_of_ble_eq_true rfl) rfl rfl (Nat.le_of_ble_eq_true rfl) dX11_proof_25 (fun hz3 => ?_)
        refine J_bipush C dX11_proof_28 (bp8 (by decide) (by decide)) ?_
        refine J_icmp_le C hz3 rl_8 (tgt := 36) dX11_proof_30 (by decide) h (fun h c21 => ?_) (fun h c21 => ?_)
        · refine J_aload_n C 3 dX11_proof_36 rfl 0 rfl ?_
          refine J_iconst C dX11_proof_37 ?_
          obtain ⟨q4, cq4, h⟩ := bdS h
          refine J_callV C mw_X9_refusalAs ml_RX11_175 (m_X9_refusalAs x.2.1 g (CxI C) (tpO x1) (tpA c1.1 c1.2) 1 rl_1 σ hσ q4 cq4) (tpA c1.1 c1.2).1 rfl (Nat.le_of_ble_eq_true rfl) (Nat.le_of_ble_eq_true rfl) rfl rfl (Nat.le_of_ble_eq_true rfl) dX11_proof_38 (fun hz5 => ?_)
          refine J_istore (lo2 := [(4, vi q4), (3, .ref (gad g (tpO x1))), (0, .ref (gad g 0)), (1, vi x1), (2, vi x2)]) C 4 dX11_proof_41 (by decide) rfl ?_
          refine J_iload C 4 dX11_proof_43 0 rfl ?_
          refine J_if_eq C hz5 (tgt := 55) dX11_proof_45 (by decide) h (fun h c20 => ?_) (fun h c20 => ?_)
          · refine J_aload_n C 0 dX11_proof_55 rfl 2 rfl ?_
            refine J_getR C fl_RX11_37 oC_0 rfl dX11_proof_56 ?_
            refine J_aload_n C 0 dX11_proof_59 rfl 2 rfl ?_
            refine J_getI C fl_RX11_80 oC_0 rfl dX11_proof_60 ?_
            refine J_iload_n C 2 dX11_proof_63 rfl 4 rfl ?_
            obtain ⟨q6, cq6, h⟩ := bdS h
            refine J_callV C mw_X3_prepare ml_RX11_238 (m_X3_prepare x.2.1 g (CxI C) (σ 0 9) (hσ 0 9 lC_0) x2 h2 σ hσ q6 cq6) oC_32 rfl (Nat.le_of_ble_eq_true rfl) (Nat.le_of_ble_eq_true rfl) rfl rfl (Nat.le_of_ble_eq_true rfl) dX11_proof_64 (fun hz7 => ?_)
            refine J_aload_n C 0 dX11_proof_67 rfl 2 rfl ?_
            refine J_getR C fl_RX11_37 oC_0 rfl dX11_proof_68 ?_
            refine J_aload_n C 3 dX11_proof_71 rfl 1 rfl ?_
            obtain ⟨q8, cq8, h⟩ := bdS h
            refine J_callV C mw_X3_firstBroken ml_RX11_251 (m_X3_firstBroken x.2.1 g (CxI C) (tpO x1) (tpA c1.1 c1.2) q6 hz7 q8 cq8) oC_32 rfl (Nat.le_of_ble_eq_true rfl) (Nat.le_of_ble_eq_true rfl) rfl rfl (Nat.le_of_ble_eq_true rfl) dX11_proof_72 (fun hz9 => ?_)
            refine J_istore (lo2 := [(5, vi q8.1), (4, vi q4), (3, .ref (gad g (tpO x1))), (0, .ref (gad g 0)), (1, vi x1), (2, vi x2)]) C 5 dX11_proof_75 (by decide) rfl ?_
            refine J_iload C 5 dX11_proof_77 0 rfl ?_
            refine J_if_lt C hz9.1 (tgt := 88) dX11_proof_79 (by decide) h (fun h c17 => ?_) (fun h c17 => ?_)
            · refine J_aload_n C 3 dX11_proof_88 rfl 2 rfl ?_
              refine J_getI C fl_RX11_254 (tpA c1.1 c1.2).1 rfl dX11_proof_89 ?_
              refine J_aload_n C 0 dX11_proof_92 rfl 3 rfl ?_
              refine J_getR C fl_RX11_37 oC_0 rfl dX11_proof_93 ?_
              refine J_getI C fl_RX11_257 oC_32 rfl dX11_proof_96 ?_
              refine J_icmp_ge C (hz9.2 (tpO x1) 1 (tpA c1.1 c1.2).2.1) (hz9.2 32 10 lC_32) (tgt := 109) dX11_proof_99 (by decide) h (fun h c14 => ?_) (fun h c14 => ?_)
              · refine J_aload_n C 0 dX11_proof_102 rfl 3 rfl ?_
                refine J_bipush C dX11_proof_103 (bp8 (by decide) (by decide)) ?_
                obtain ⟨q12, cq12, h⟩ := bdS h
                refine J_callV C mw_X11_refuse ml_RX11_178 (m_X11_refuse x.2.1 g (CxI C) (-13) rl_m13 q8.2 hz9.2 q12 cq12) oC_0 rfl (Nat.le_of_ble_eq_true rfl) (Nat.le_of_ble_eq_true rfl) rfl rfl (Nat.le_of_ble_eq_true rfl) dX11_proof_105 (fun hz13 => ?_)
                have e9 := sE h
                subst e9
                exact J_iret C E ⟨hz13.1, hz13.2⟩ dX11_proof_108
              · refine J_aload_n C 0 dX11_proof_109 rfl 3 rfl ?_
                refine J_getR C fl_RX11_37 oC_0 rfl dX11_proof_110 ?_
                obtain ⟨q10, cq10, h⟩ := bdS h
                refine J_callV C mw_X3_mostLoad ml_RX11_260 (m_X3_mostLoad x.2.1 g (CxI C) q8.2 hz9.2 q10 cq10) oC_32 rfl (Nat.le_of_ble_eq_true rfl) (Nat.le_of_ble_eq_true rfl) rfl rfl (Nat.le_of_ble_eq_true rfl) dX11_proof_113 (fun hz11 => ?_)
                have e9 := sE h
                subst e9
                exact J_iret C E ⟨hz11, hz9.2⟩ dX11_proof_116
            · refine J_bipush C dX11_proof_82 (bp8 (by decide) (by decide)) ?_
              refine J_iload C 5 dX11_proof_84 0 rfl ?_
              refine J_isub C dX11_proof_86 h (fun v15 hv16 h => ?_)
              have e9 := sE h
              subst e9
              exact J_iret C E ⟨hv16, hz9.2⟩ dX11_proof_87
          · refine J_aload_n C 0 dX11_proof_48 rfl 2 rfl ?_
            refine J_iload C 4 dX11_proof_49 0 rfl ?_
            obtain ⟨q18, cq18, h⟩ := bdS h
            refine J_callV C mw_X11_refuse ml_RX11_178 (m_X11_refuse x.2.1 g (CxI C) q4 hz5 σ hσ q18 cq18) oC_0 rfl (Nat.le_of_ble_eq_true rfl) (Nat.le_of_ble_eq_true rfl) rfl rfl (Nat.le_of_ble_eq_true rfl) dX11_proof_51 (fun hz19 => ?_)
            have e9 := sE h
            subst e9
            exact J_iret C E ⟨hz19.1, hz19.2⟩ dX11_proof_54
        · refine J_bipush C dX11_proof_33 (bp8 (by decide) (by decide)) ?_
          have e9 := sE h
          subst e9
          exact J_iret C E ⟨rl_m4, hσ⟩ dX11_proof_35
      · refine J_iconst C dX11_proof_19 ?_
        have e9 := sE h
        subst e9
        exact J_iret C E ⟨rl_m1, hσ⟩ dX11_proof_20
  · refine J_callV C mw_X11_tapeAt ml_RX11_171 (m_X11_tapeAt0 x.2.1 g (CxI C) x1 h1 σ hσ c1) oC_0 rfl (Nat.le_of_ble_eq_true rfl) (Nat.le_of_ble_eq_true rfl) rfl rfl (Nat.le_of_ble_eq_true rfl) dX11_proof_2 (fun _ => ?_)
    refine J_astore_nN (lo2 := [(3, .null), (0, .ref (gad g 0)), (1, vi x1), (2, vi x2)]) C 3 dX11_proof_5 rfl (by decide) rfl ?_
    refine J_aload_nN C 3 dX11_proof_6 rfl 0 rfl ?_
    refine J_isnullN C (tgt := 19) dX11_proof_7 (by decide) ?_
    refine J_iconst C dX11_proof_19 ?_
    have e9 := sE h
    subst e9
    exact J_iret C E ⟨rl_m1, hσ⟩ dX11_proof_20
set_option maxRecDepth 100000 in
set_option maxHeartbeats 4000000 in
theorem m_X11_place (l : Launch) (g : Gm) (hg : gInj yC g) (x1 : Int) (h1 : rg x1) (x2 : Int) (h2 : rg x2) (σ : Sg) (hσ : wfS yC σ) (q : Int × Sg) (h : fX11_place x1 x2 σ = some q) : CJ l yC g yX11_place cX11_place 4 (some .int) 2 43 [.ref (gad g 0), vi x1, vi x2] σ (some (vi q.1)) q.2 ((rg q.1) ∧ wfS yC q.2) := by
  refine CJ_of hg (by decide) rfl (Nat.le_of_ble_eq_true rfl) (lo := [(0, .ref (gad g 0)), (1, vi x1), (2, vi x2)]) rfl (fun x C E => ?_)
  unfold fX11_place at h
  have pc3 : ∀  (σ : Sg) (hσ : wfS yC σ), fX11_place_P29 x1 x2 σ = some q → J x yC g 4 29 [(0, .ref (gad g 0)), (1, vi x1), (2, vi x2)] [] σ := by
    intro  σ hσ h
    unfold fX11_place_P29 at h
    refine J_aload_n C 0 dX11_place_29 rfl 0 rfl ?_
    refine J_getR C fl_RX11_19 oC_0 rfl dX11_place_30 ?_
    refine J_iload_n C 1 dX11_place_33 rfl 1 rfl ?_
    obtain ⟨q4, cq4, h⟩ := bdS h
    refine J_callV C mw_X1_bargeOf ml_RX11_213 (m_X1_bargeOf x.2.1 g (CxI C) 19 cues_19 x1 h1 σ hσ q4 cq4) cues_19.1 rfl (Nat.le_of_ble_eq_true rfl) (Nat.le_of_ble_eq_true rfl) rfl rfl (Nat.le_of_ble_eq_true rfl) dX11_place_34 (fun hz5 => ?_)
    refine J_istore_n (lo2 := [(3, vi q4), (0, .ref (gad g 0)), (1, vi x1), (2, vi x2)]) C 3 dX11_place_37 rfl (by decide) rfl ?_
    refine J_aload_n C 0 dX11_place_38 rfl 1 rfl ?_
    refine J_getR C fl_RX11_19 oC_0 rfl dX11_place_39 ?_
    refine J_iload_n C 1 dX11_place_42 rfl 2 rfl ?_
    refine J_iload_n C 2 dX11_place_43 rfl 3 rfl ?_
    obtain ⟨q6, cq6, h⟩ := bdS h
    refine J_callV C mw_X1_setBarge ml_RX11_263 (m_X1_setBarge x.2.1 g (CxI C) 19 cues_19 x1 h1 x2 h2 σ hσ q6 cq6) cues_19.1 rfl (Nat.le_of_ble_eq_true rfl) (Nat.le_of_ble_eq_true rfl) rfl rfl (Nat.le_of_ble_eq_true rfl) dX11_place_44 (fun hz7 => ?_)
    refine J_iload_n C 3 dX11_place_47 rfl 0 rfl ?_
    have e9 := sE h
    subst e9
    exact J_iret C E ⟨hz5, hz7⟩ dX11_place_48
  refine J_aload_n C 0 dX11_place_0 rfl 0 rfl ?_
  refine J_getR C fl_RX11_19 oC_0 rfl dX11_place_1 ?_
  refine J_iload_n C 1 dX11_place_4 rfl 1 rfl ?_
  obtain ⟨q1, cq1, h⟩ := bdS h
  refine J_callV C mw_X1_isCue ml_RX11_199 (m_X1_isCue x.2.1 g (CxI C) 19 cues_19 x1 h1 σ hσ q1 cq1) cues_19.1 rfl (Nat.le_of_ble_eq_true rfl) (Nat.le_of_ble_eq_true rfl) rfl rfl (Nat.le_of_ble_eq_true rfl) dX11_place_5 (fun hz2 => ?_)
  refine J_if_eq C (rg01 hz2) (tgt := 27) dX11_place_8 (by decide) h (fun h c16 => ?_) (fun h c16 => ?_)
  · refine J_iconst C dX11_place_27 ?_
    have e9 := sE h
    subst e9
    exact J_iret C E ⟨rl_m1, hσ⟩ dX11_place_28
  · refine J_iload_n C 2 dX11_place_11 rfl 2 rfl ?_
    refine J_iconst C dX11_place_12 ?_
    refine J_icmp_eq C h2 rl_m1 (tgt := 29) dX11_place_13 (by decide) h (fun h c15 => ?_) (fun h c15 => ?_)
    · exact J_sub [0, 1, 2] rfl (pc3 σ hσ h)
    · refine J_aload_n C 0 dX11_place_16 rfl 0 rfl ?_
      refine J_getR C fl_RX11_10 oC_0 rfl dX11_place_17 ?_
      refine J_iload_n C 2 dX11_place_20 rfl 2 rfl ?_
      obtain ⟨q12, cq12, h⟩ := bdS h
      refine J_callV C mw_X8_isBarge ml_RX11_147 (m_X8_isBarge x.2.1 g (CxI C) x2 h2 σ hσ q12 cq12) oC_1 rfl (Nat.le_of_ble_eq_true rfl) (Nat.le_of_ble_eq_true rfl) rfl rfl (Nat.le_of_ble_eq_true rfl) dX11_place_21 (fun hz13 => ?_)
      refine J_if_ne C (rg01 hz13) (tgt := 29) dX11_place_24 (by decide) h (fun h c14 => ?_) (fun h c14 => ?_)
      · refine J_iconst C dX11_place_27 ?_
        have e9 := sE h
        subst e9
        exact J_iret C E ⟨rl_m1, hσ⟩ dX11_place_28
      · exact J_sub [0, 1, 2] rfl (pc3 σ hσ h)
set_option maxRecDepth 100000 in
set_option maxHeartbeats 4000000 in
theorem m_X11_isTick (l : Launch) (g : Gm) (hg : gInj yC g) (x0 : Int) (h0 : rg x0) (σ : Sg) (hσ : wfS yC σ) (q : Int) (h : fX11_isTick x0 σ = some q) : CJ l yC g yX11_isTick cX11_isTick 1 (some .boolean) 0 0 [vi x0] σ (some (vi q)) σ (q = 0 ∨ q = 1) := by
  refine CJ_of hg (by decide) rfl (Nat.le_of_ble_eq_true rfl) (lo := [(0, vi x0)]) rfl (fun x C E => ?_)
  unfold fX11_isTick at h
  refine J_iload_n C 0 dX11_isTick_0 rfl 0 rfl ?_
  refine J_if_lt C h0 (tgt := 15) dX11_isTick_1 (by decide) h (fun h c2 => ?_) (fun h c2 => ?_)
  · refine J_iconst C dX11_isTick_15 ?_
    have e9 := sE h
    subst e9
    exact J_zret C (Or.inl rfl) E (Or.inl rfl) dX11_isTick_16
  · refine J_iload_n C 0 dX11_isTick_4 rfl 0 rfl ?_
    refine J_sipush C dX11_isTick_5 (bp16 (by decide) (by decide)) ?_
    refine J_icmp_gt C h0 rl_20000 (tgt := 15) dX11_isTick_8 (by decide) h (fun h c1 => ?_) (fun h c1 => ?_)
    · refine J_iconst C dX11_isTick_11 ?_
      refine J_goto C (tgt := 16) dX11_isTick_12 (by decide) ?_
      have e9 := sE h
      subst e9
      exact J_zret C (Or.inr rfl) E (Or.inr rfl) dX11_isTick_16
    · refine J_iconst C dX11_isTick_15 ?_
      have e9 := sE h
      subst e9
      exact J_zret C (Or.inl rfl) E (Or.inl rfl) dX11_isTick_16
set_option maxRecDepth 100000 in
set_option maxHeartbeats 4000000 in
theorem m_X4_tell (l : Launch) (g : Gm) (hg : gInj yC g) (x1 : Int) (h1 : rg x1) (x2 : Int) (h2 : rg x2) (x3 : Int) (h3 : rg x3) (σ : Sg) (hσ : wfS yC σ) (q : Sg) (h : fX4_tell x1 x2 x3 σ = some q) : CJ l yC g yX4_tell cX4_tell 4 none 0 0 [.ref (gad g 40), vi x1, vi x2, vi x3] σ none q (wfS yC q) := by
  refine CJ_of hg (by decide) rfl (Nat.le_of_ble_eq_true rfl) (lo := [(0, .ref (gad g 40)), (1, vi x1), (2, vi x2), (3, vi x3)]) rfl (fun x C E => ?_)
  unfold fX4_tell at h
  refine J_aload_n C 0 dX4_tell_0 rfl 0 rfl ?_
  refine J_getI C fl_RX4_21 oC_40 rfl dX4_tell_1 ?_
  refine J_if_lt C (hσ 40 3 lC_40) (tgt := 16) dX4_tell_4 (by decide) h (fun h c12 => ?_) (fun h c12 => ?_)
  · have e9 := sE h
    subst e9
    exact J_vret C E hσ dX4_tell_16
  · refine J_aload_n C 0 dX4_tell_7 rfl 0 rfl ?_
    refine J_getI C fl_RX4_21 oC_40 rfl dX4_tell_8 ?_
    refine J_bipush C dX4_tell_11 (bp8 (by decide) (by decide)) ?_
    refine J_icmp_lt C (hσ 40 3 lC_40) rl_20 (tgt := 17) dX4_tell_13 (by decide) h (fun h c11 => ?_) (fun h c11 => ?_)
    · refine J_aload_n C 0 dX4_tell_17 rfl 0 rfl ?_
      refine J_getR C fl_RX4_9 oC_40 rfl dX4_tell_18 ?_
      refine J_aload_n C 0 dX4_tell_21 rfl 0 rfl ?_
      refine J_getI C fl_RX4_21 oC_40 rfl dX4_tell_22 ?_
      refine J_iload_n C 1 dX4_tell_25 rfl 1 rfl ?_
      refine J_iast C aC_41 hσ h1 dX4_tell_26 h (fun σ1 hσ2 h => ?_)
      refine J_aload_n C 0 dX4_tell_27 rfl 0 rfl ?_
      refine J_getR C fl_RX4_15 oC_40 rfl dX4_tell_28 ?_
      refine J_aload_n C 0 dX4_tell_31 rfl 0 rfl ?_
      refine J_getI C fl_RX4_21 oC_40 rfl dX4_tell_32 ?_
      refine J_iload_n C 2 dX4_tell_35 rfl 2 rfl ?_
      refine J_iast C aC_42 hσ2 h2 dX4_tell_36 h (fun σ3 hσ4 h => ?_)
      refine J_aload_n C 0 dX4_tell_37 rfl 0 rfl ?_
      refine J_getR C fl_RX4_18 oC_40 rfl dX4_tell_38 ?_
      refine J_aload_n C 0 dX4_tell_41 rfl 0 rfl ?_
      refine J_getI C fl_RX4_21 oC_40 rfl dX4_tell_42 ?_
      refine J_iload_n C 3 dX4_tell_45 rfl 3 rfl ?_
      refine J_iast C aC_43 hσ4 h3 dX4_tell_46 h (fun σ5 hσ6 h => ?_)
      refine J_aload_n C 0 dX4_tell_47 rfl 0 rfl ?_
      refine J_dup C rfl dX4_tell_48 ?_
      refine J_getI C fl_RX4_21 oC_40 rfl dX4_tell_49 ?_
      refine J_iconst C dX4_tell_52 ?_
      refine J_iadd C dX4_tell_53 h (fun v7 hv8 h => ?_)
      refine J_putI C fl_RX4_21 fp_RX4_3 oC_40 rfl rfl lC_40 hσ6 hv8 dX4_tell_54 h (fun σ9 hσ10 h => ?_)
      have e9 := sE h
      subst e9
      exact J_vret C E hσ10 dX4_tell_57
    · have e9 := sE h
      subst e9
      exact J_vret C E hσ dX4_tell_16
set_option maxRecDepth 100000 in
set_option maxHeartbeats 4000000 in
theorem m_X11_meter (l : Launch) (g : Gm) (hg : gInj yC g) (x1 : Int) (h1 : rg x1) (x2 : Int) (h2 : rg x2) (x3 : Int) (h3 : rg x3) (σ : Sg) (hσ : wfS yC σ) (q : Int × Sg) (h : fX11_meter x1 x2 x3 σ = some q) : CJ l yC g yX11_meter cX11_meter 4 (some .int) 1 23 [.ref (gad g 0), vi x1, vi x2, vi x3] σ (some (vi q.1)) q.2 ((rg q.1) ∧ wfS yC q.2) := by
  refine CJ_of hg (by decide) rfl (Nat.le_of_ble_eq_true rfl) (lo := [(0, .ref (gad g 0)), (1, vi x1), (2, vi x2), (3, vi x3)]) rfl (fun x C E => ?_)
  unfold fX11_meter at h
  refine J_iload_n C 1 dX11_meter_0 rfl 1 rfl ?_
  refine J_if_lt C h1 (tgt := 28) dX11_meter_1 (by decide) h (fun h c12 => ?_) (fun h c12 => ?_)
  · refine J_iconst C dX11_meter_28 ?_
    have e9 := sE h
    subst e9
    exact J_iret C E ⟨rl_m1, hσ⟩ dX11_meter_29
  · refine J_iload_n C 1 dX11_meter_4 rfl 1 rfl ?_
    refine J_iconst C dX11_meter_5 ?_
    refine J_icmp_ge C h1 rl_4 (tgt := 28) dX11_meter_6 (by decide) h (fun h c11 => ?_) (fun h c11 => ?_)
    · refine J_iload_n C 2 dX11_meter_9 rfl 2 rfl ?_
      obtain ⟨q1, cq1, h⟩ := bdS h
      refine J_callS C mw_X11_isTick ml_RX11_266 (m_X11_isTick x.2.1 g (CxI C) x2 h2 σ hσ q1 cq1) (Nat.le_of_ble_eq_true rfl) (Nat.le_of_ble_eq_true rfl) rfl rfl (Nat.le_of_ble_eq_true rfl) dX11_meter_10 (fun hz2 => ?_)
      refine J_if_eq C (rg01 hz2) (tgt := 28) dX11_meter_13 (by decide) h (fun h c10 => ?_) (fun h c10 => ?_)
      · refine J_iconst C dX11_meter_28 ?_
        have e9 := sE h
        subst e9
        exact J_iret C E ⟨rl_m1, hσ⟩ dX11_meter_29
      · refine J_iload_n C 3 dX11_meter_16 rfl 3 rfl ?_
        obtain ⟨q3, cq3, h⟩ := bdS h
        refine J_callS C mw_X11_isTick ml_RX11_266 (m_X11_isTick x.2.1 g (CxI C) x3 h3 σ hσ q3 cq3) (Nat.le_of_ble_eq_true rfl) (Nat.le_of_ble_eq_true rfl) rfl rfl (Nat.le_of_ble_eq_true rfl) dX11_meter_17 (fun hz4 => ?_)
        refine J_if_eq C (rg01 hz4) (tgt := 28) dX11_meter_20 (by decide) h (fun h c9 => ?_) (fun h c9 => ?_)
        · refine J_iconst C dX11_meter_28 ?_
          have e9 := sE h
          subst e9
          exact J_iret C E ⟨rl_m1, hσ⟩ dX11_meter_29
        · refine J_iload_n C 3 dX11_meter_23 rfl 3 rfl ?_
          refine J_iload_n C 2 dX11_meter_24 rfl 2 rfl ?_
          refine J_icmp_ge C h3 h2 (tgt := 30) dX11_meter_25 (by decide) h (fun h c8 => ?_) (fun h c8 => ?_)
          · refine J_iconst C dX11_meter_28 ?_
            have e9 := sE h
            subst e9
            exact J_iret C E ⟨rl_m1, hσ⟩ dX11_meter_29
          · refine J_aload_n C 0 dX11_meter_30 rfl 0 rfl ?_
            refine J_getR C fl_RX11_44 oC_0 rfl dX11_meter_31 ?_
            refine J_getI C fl_RX11_93 oC_40 rfl dX11_meter_34 ?_
            refine J_bipush C dX11_meter_37 (bp8 (by decide) (by decide)) ?_
            refine J_icmp_lt C (hσ 40 3 lC_40) rl_20 (tgt := 45) dX11_meter_39 (by decide) h (fun h c7 => ?_) (fun h c7 => ?_)
            · refine J_aload_n C 0 dX11_meter_45 rfl 0 rfl ?_
              refine J_getR C fl_RX11_44 oC_0 rfl dX11_meter_46 ?_
              refine J_iload_n C 1 dX11_meter_49 rfl 1 rfl ?_
              refine J_iload_n C 2 dX11_meter_50 rfl 2 rfl ?_
              refine J_iload_n C 3 dX11_meter_51 rfl 3 rfl ?_
              obtain ⟨q5, cq5, h⟩ := bdS h
              refine J_callV C mw_X4_tell ml_RX11_269 (m_X4_tell x.2.1 g (CxI C) x1 h1 x2 h2 x3 h3 σ hσ q5 cq5) oC_40 rfl (Nat.le_of_ble_eq_true rfl) (Nat.le_of_ble_eq_true rfl) rfl rfl (Nat.le_of_ble_eq_true rfl) dX11_meter_52 (fun hz6 => ?_)
              refine J_aload_n C 0 dX11_meter_55 rfl 0 rfl ?_
              refine J_getR C fl_RX11_44 oC_0 rfl dX11_meter_56 ?_
              refine J_getI C fl_RX11_93 oC_40 rfl dX11_meter_59 ?_
              have e9 := sE h
              subst e9
              exact J_iret C E ⟨(hz6 40 3 lC_40), hz6⟩ dX11_meter_62
            · refine J_bipush C dX11_meter_42 (bp8 (by decide) (by decide)) ?_
              have e9 := sE h
              subst e9
              exact J_iret C E ⟨rl_m2, hσ⟩ dX11_meter_44
    · refine J_iconst C dX11_meter_28 ?_
      have e9 := sE h
      subst e9
      exact J_iret C E ⟨rl_m1, hσ⟩ dX11_meter_29
set_option maxRecDepth 100000 in
set_option maxHeartbeats 4000000 in
theorem wX4_windKnown_L7 {x : Ct} {g : Gm} (C : Cx x yC g 5 cX4_windKnown RX4 0 0) : ∀ (n : Nat) (x1 : Int) (h1 : rg x1) (x2 : Int) (h2 : rg x2) (x3 : Int) (h3 : rg x3) (x4 : Int) (h4 : rg x4) (σ : Sg) (hσ : wfS yC σ) (q : Int) (h : fX4_windKnown_L7 n x1 x2 x3 x4 σ = some q) (k : rg q → J x yC g 5 67 [(2, vi q)] [] σ), J x yC g 5 7 [(0, .ref (gad g 40)), (1, vi x1), (2, vi x2), (3, vi x3), (4, vi x4)] [] σ := by
  intro n
  induction n with
  | zero =>
    intro x1 h1 x2 h2 x3 h3 x4 h4 σ hσ q h k
    exact absurd h (by intro z; cases z)
  | succ n ih =>
    intro x1 h1 x2 h2 x3 h3 x4 h4 σ hσ q h k
    rw [fX4_windKnown_L7] at h
    have pc3 : ∀ (x2 : Int) (h2 : rg x2) (x3 : Int) (h3 : rg x3) (x4 : Int) (h4 : rg x4), fX4_windKnown_L7P61 (fX4_windKnown_L7 n) x1 x2 x3 x4 σ = some q → J x yC g 5 61 [(0, .ref (gad g 40)), (1, vi x1), (2, vi x2), (3, vi x3), (4, vi x4)] [] σ := by
      intro x2 h2 x3 h3 x4 h4 h
      unfold fX4_windKnown_L7P61 at h
      refine J_iinc C 4 4 dX4_windKnown_61 rfl (by decide) h (fun v4 hv5 h => ?_)
      refine J_goto C (tgt := 7) dX4_windKnown_64 (by decide) ?_
      exact J_sub [1, 2, 3, 4, 0] rfl (ih x1 h1 x2 h2 x3 h3 v4 hv5 σ hσ q h k)
    refine J_iload C 4 dX4_windKnown_7 4 rfl ?_
    refine J_aload_n C 0 dX4_windKnown_9 rfl 0 rfl ?_
    refine J_getI C fl_RX4_21 oC_40 rfl dX4_windKnown_10 ?_
    refine J_icmp_ge C h4 (hσ 40 3 lC_40) (tgt := 67) dX4_windKnown_13 (by decide) h (fun h c17 => ?_) (fun h c17 => ?_)
    · refine J_iload C 4 dX4_windKnown_16 4 rfl ?_
      refine J_bipush C dX4_windKnown_18 (bp8 (by decide) (by decide)) ?_
      refine J_icmp_ge C h4 rl_20 (tgt := 67) dX4_windKnown_20 (by decide) h (fun h c16 => ?_) (fun h c16 => ?_)
      · refine J_aload_n C 0 dX4_windKnown_23 rfl 0 rfl ?_
        refine J_getR C fl_RX4_18 oC_40 rfl dX4_windKnown_24 ?_
        refine J_iload C 4 dX4_windKnown_27 4 rfl ?_
        refine J_iald C aC_43 hσ dX4_windKnown_29 h (fun v1 hv2 h => ?_)
        refine J_iload_n C 1 dX4_windKnown_30 rfl 1 rfl ?_
        refine J_icmp_gt C hv2 h1 (tgt := 61) dX4_windKnown_31 (by decide) h (fun h c15 => ?_) (fun h c15 => ?_)
        · refine J_aload_n C 0 dX4_windKnown_34 rfl 0 rfl ?_
          refine J_getR C fl_RX4_15 oC_40 rfl dX4_windKnown_35 ?_
          refine J_iload C 4 dX4_windKnown_38 4 rfl ?_
          refine J_iald C aC_42 hσ dX4_windKnown_40 h (fun v8 hv9 h => ?_)
          refine J_iload_n C 3 dX4_windKnown_41 rfl 3 rfl ?_
          refine J_icmp_lt C hv9 h3 (tgt := 61) dX4_windKnown_42 (by decide) h (fun h c14 => ?_) (fun h c14 => ?_)
          · exact J_sub [0, 1, 2, 3, 4] rfl (pc3 x2 h2 x3 h3 x4 h4 h)
          · refine J_aload_n C 0 dX4_windKnown_45 rfl 0 rfl ?_
            refine J_getR C fl_RX4_15 oC_40 rfl dX4_windKnown_46 ?_
            refine J_iload C 4 dX4_windKnown_49 4 rfl ?_
            refine J_iald C aC_42 hσ dX4_windKnown_51 h (fun v10 hv11 h => ?_)
            refine J_istore_n (lo2 := [(3, vi v10), (0, .ref (gad g 40)), (1, vi x1), (2, vi x2), (4, vi x4)]) C 3 dX4_windKnown_52 rfl (by decide) rfl ?_
            refine J_aload_n C 0 dX4_windKnown_53 rfl 1 rfl ?_
            refine J_getR C fl_RX4_9 oC_40 rfl dX4_windKnown_54 ?_
            refine J_iload C 4 dX4_windKnown_57 4 rfl ?_
            refine J_iald C aC_41 hσ dX4_windKnown_59 h (fun v12 hv13 h => ?_)
            refine J_istore_n (lo2 := [(2, vi v12), (3, vi v10), (0, .ref (gad g 40)), (1, vi x1), (4, vi x4)]) C 2 dX4_windKnown_60 rfl (by decide) rfl ?_
            exact J_sub [2, 3, 0, 1, 4] rfl (pc3 v12 hv13 v10 hv11 x4 h4 h)
        · exact J_sub [0, 1, 2, 3, 4] rfl (pc3 x2 h2 x3 h3 x4 h4 h)
      · have e9 := sE h
        subst e9
        exact J_sub [2] rfl (k h2)
    · have e9 := sE h
      subst e9
      exact J_sub [2] rfl (k h2)
set_option maxRecDepth 100000 in
set_option maxHeartbeats 4000000 in
theorem m_X4_windKnown (l : Launch) (g : Gm) (hg : gInj yC g) (x1 : Int) (h1 : rg x1) (σ : Sg) (hσ : wfS yC σ) (q : Int) (h : fX4_windKnown x1 σ = some q) : CJ l yC g yX4_windKnown cX4_windKnown 5 (some .int) 0 0 [.ref (gad g 40), vi x1] σ (some (vi q)) σ (rg q) := by
  refine CJ_of hg (by decide) rfl (Nat.le_of_ble_eq_true rfl) (lo := [(0, .ref (gad g 40)), (1, vi x1)]) rfl (fun x C E => ?_)
  unfold fX4_windKnown at h
  refine J_iconst C dX4_windKnown_0 ?_
  refine J_istore_n (lo2 := [(2, vi 0), (0, .ref (gad g 40)), (1, vi x1)]) C 2 dX4_windKnown_1 rfl (by decide) rfl ?_
  refine J_iconst C dX4_windKnown_2 ?_
  refine J_istore_n (lo2 := [(3, vi (-1)), (2, vi 0), (0, .ref (gad g 40)), (1, vi x1)]) C 3 dX4_windKnown_3 rfl (by decide) rfl ?_
  refine J_iconst C dX4_windKnown_4 ?_
  refine J_istore (lo2 := [(4, vi 0), (3, vi (-1)), (2, vi 0), (0, .ref (gad g 40)), (1, vi x1)]) C 4 dX4_windKnown_5 (by decide) rfl ?_
  obtain ⟨q18, cq18, h⟩ := bdS h
  refine J_sub [3, 4, 2, 1, 0] rfl (wX4_windKnown_L7 C fu x1 h1 0 rl_0 (-1) rl_m1 0 rl_0 σ hσ q18 cq18 (fun hr19 => ?_))
  refine J_iload_n C 2 dX4_windKnown_67 rfl 0 rfl ?_
  have e9 := sE h
  subst e9
  exact J_iret C E hr19 dX4_windKnown_68
set_option maxRecDepth 100000 in
set_option maxHeartbeats 4000000 in
theorem m_X11_knows (l : Launch) (g : Gm) (hg : gInj yC g) (x1 : Int) (h1 : rg x1) (σ : Sg) (hσ : wfS yC σ) (q : Int) (h : fX11_knows x1 σ = some q) : CJ l yC g yX11_knows cX11_knows 2 (some .int) 1 24 [.ref (gad g 0), vi x1] σ (some (vi q)) σ (rg q) := by
  refine CJ_of hg (by decide) rfl (Nat.le_of_ble_eq_true rfl) (lo := [(0, .ref (gad g 0)), (1, vi x1)]) rfl (fun x C E => ?_)
  unfold fX11_knows at h
  refine J_iload_n C 1 dX11_knows_0 rfl 1 rfl ?_
  obtain ⟨q1, cq1, h⟩ := bdS h
  refine J_callS C mw_X11_isTick ml_RX11_266 (m_X11_isTick x.2.1 g (CxI C) x1 h1 σ hσ q1 cq1) (Nat.le_of_ble_eq_true rfl) (Nat.le_of_ble_eq_true rfl) rfl rfl (Nat.le_of_ble_eq_true rfl) dX11_knows_1 (fun hz2 => ?_)
  refine J_if_eq C (rg01 hz2) (tgt := 18) dX11_knows_4 (by decide) h (fun h c5 => ?_) (fun h c5 => ?_)
  · refine J_iconst C dX11_knows_18 ?_
    have e9 := sE h
    subst e9
    exact J_iret C E rl_m1 dX11_knows_19
  · refine J_aload_n C 0 dX11_knows_7 rfl 0 rfl ?_
    refine J_getR C fl_RX11_44 oC_0 rfl dX11_knows_8 ?_
    refine J_iload_n C 1 dX11_knows_11 rfl 1 rfl ?_
    obtain ⟨q3, cq3, h⟩ := bdS h
    refine J_callV C mw_X4_windKnown ml_RX11_271 (m_X4_windKnown x.2.1 g (CxI C) x1 h1 σ hσ q3 cq3) oC_40 rfl (Nat.le_of_ble_eq_true rfl) (Nat.le_of_ble_eq_true rfl) rfl rfl (Nat.le_of_ble_eq_true rfl) dX11_knows_12 (fun hz4 => ?_)
    refine J_goto C (tgt := 19) dX11_knows_15 (by decide) ?_
    have e9 := sE h
    subst e9
    exact J_iret C E hz4 dX11_knows_19
set_option maxRecDepth 100000 in
set_option maxHeartbeats 4000000 in
theorem m_X5_takes (l : Launch) (g : Gm) (hg : gInj yC g) (x0 : Int) (h0 : rg x0) (σ : Sg) (hσ : wfS yC σ) (q : Int) (h : fX5_takes x0 σ = some q) : CJ l yC g yX5_takes cX5_takes 1 (some .int) 0 0 [vi x0] σ (some (vi q)) σ (rg q) := by
  refine CJ_of hg (by decide) rfl (Nat.le_of_ble_eq_true rfl) (lo := [(0, vi x0)]) rfl (fun x C E => ?_)
  unfold fX5_takes at h
  refine J_iload_n C 0 dX5_takes_0 rfl 0 rfl ?_
  refine J_iconst C dX5_takes_1 ?_
  refine J_icmp_gt C h0 rl_5 (tgt := 9) dX5_takes_2 (by decide) h (fun h c2 => ?_) (fun h c2 => ?_)
  · refine J_iconst C dX5_takes_5 ?_
    refine J_goto C (tgt := 20) dX5_takes_6 (by decide) ?_
    have e9 := sE h
    subst e9
    exact J_iret C E rl_0 dX5_takes_20
  · refine J_iload_n C 0 dX5_takes_9 rfl 0 rfl ?_
    refine J_bipush C dX5_takes_10 (bp8 (by decide) (by decide)) ?_
    refine J_icmp_ne C h0 rl_8 (tgt := 19) dX5_takes_12 (by decide) h (fun h c1 => ?_) (fun h c1 => ?_)
    · refine J_iconst C dX5_takes_15 ?_
      refine J_goto C (tgt := 20) dX5_takes_16 (by decide) ?_
      have e9 := sE h
      subst e9
      exact J_iret C E rl_1 dX5_takes_20
    · refine J_iconst C dX5_takes_19 ?_
      have e9 := sE h
      subst e9
      exact J_iret C E rl_2 dX5_takes_20
set_option maxRecDepth 100000 in
set_option maxHeartbeats 4000000 in
theorem wX5_firstFault_L9 {x : Ct} {g : Gm} (C : Cx x yC g 5 cX5_firstFault RX5 3 63) : ∀ (n : Nat) (x1 : Nat) (h1 : isTape x1) (x2 : Int) (h2 : rg x2) (x3 : Int) (h3 : rg x3) (σ : Sg) (hσ : wfS yC σ) (q : (Int × Int × Sg) ⊕ ((Int × Sg) ⊕ ((Int × Sg) ⊕ ((Int × Sg) ⊕ (Sg))))) (h : fX5_firstFault_L9 n x1 x2 x3 σ = some q) (k0 : ∀ a : Int × Int × Sg, q = .inl a → rg a.1 → rg a.2.1 → wfS yC a.2.2 → J x yC g 5 29 [(2, vi a.1), (3, vi a.2.1)] [] a.2.2) (k1 : ∀ a : Int × Sg, q = .inr (.inl a) → rg a.1 → wfS yC a.2 → J x yC g 5 61 [(2, vi a.1)] [] a.2) (k2 : ∀ a : Int × Sg, q = .inr (.inr (.inl a)) → rg a.1 → wfS yC a.2 → J x yC g 5 89 [(2, vi a.1)] [] a.2) (k3 : ∀ a : Int × Sg, q = .inr (.inr (.inr (.inl a))) → rg a.1 → wfS yC a.2 → J x yC g 5 107 [(2, vi a.1)] [] a.2) (k4 : ∀ a : Sg, q = .inr (.inr (.inr (.inr a))) → wfS yC a → J x yC g 5 136 [(1, .ref (gad g x1))] [] a), J x yC g 5 9 [(0, .ref (gad g 44)), (1, .ref (gad g x1)), (2, vi x2), (3, vi x3)] [] σ := by
  intro n
  induction n with
  | zero =>
    intro x1 h1 x2 h2 x3 h3 σ hσ q h k0 k1 k2 k3 k4
    exact absurd h (by intro z; cases z)
  | succ n ih =>
    intro x1 h1 x2 h2 x3 h3 σ hσ q h k0 k1 k2 k3 k4
    rw [fX5_firstFault_L9] at h
    have pc14 : ∀ (x3 : Int) (h3 : rg x3) (y0 : Int) (g0 : rg y0) (y1 : Int) (g1 : rg y1) (σ : Sg) (hσ : wfS yC σ), fX5_firstFault_L9P121 (fX5_firstFault_L9 n) x1 x3 y0 y1 σ = some q → J x yC g 5 121 [(0, .ref (gad g 44)), (1, .ref (gad g x1)), (3, vi x3)] [vi y0, vi y1] σ := by
      intro x3 h3 y0 g0 y1 g1 σ hσ h
      unfold fX5_firstFault_L9P121 at h
      refine J_iadd C dX5_firstFault_121 h (fun v15 hv16 h => ?_)
      refine J_istore_n (lo2 := [(2, vi v15), (0, .ref (gad g 44)), (1, .ref (gad g x1)), (3, vi x3)]) C 2 dX5_firstFault_122 rfl (by decide) rfl ?_
      refine J_aload_n C 0 dX5_firstFault_123 rfl 1 rfl ?_
      refine J_dup C rfl dX5_firstFault_124 ?_
      refine J_getI C fl_RX5_21 oC_44 rfl dX5_firstFault_125 ?_
      refine J_iconst C dX5_firstFault_128 ?_
      refine J_iadd C dX5_firstFault_129 h (fun v17 hv18 h => ?_)
      refine J_putI C fl_RX5_21 fp_RX5_4 oC_44 rfl rfl lC_44 hσ hv18 dX5_firstFault_130 h (fun σ19 hσ20 h => ?_)
      refine J_goto C (tgt := 9) dX5_firstFault_133 (by decide) ?_
      exact J_sub [1, 2, 0, 3] rfl (ih x1 h1 v15 hv16 x3 h3 σ19 hσ20 q h k0 k1 k2 k3 k4)
    have pc7 : ∀ (x2 : Int) (h2 : rg x2) (x3 : Int) (h3 : rg x3) (x4 : Int) (h4 : rg x4) (σ : Sg) (hσ : wfS yC σ), fX5_firstFault_L9P91 (fX5_firstFault_L9 n) x1 x2 x3 x4 σ = some q → J x yC g 5 91 [(0, .ref (gad g 44)), (1, .ref (gad g x1)), (2, vi x2), (3, vi x3), (4, vi x4)] [] σ := by
      intro x2 h2 x3 h3 x4 h4 σ hσ h
      unfold fX5_firstFault_L9P91 at h
      refine J_iload_n C 3 dX5_firstFault_91 rfl 3 rfl ?_
      refine J_iconst C dX5_firstFault_92 ?_
      refine J_iload C 4 dX5_firstFault_93 4 rfl ?_
      obtain ⟨q8, cq8, h⟩ := bdS h
      refine J_callS C mw_X5_takes ml_RX5_34 (m_X5_takes x.2.1 g (CxI C) x4 h4 σ hσ q8 cq8) (Nat.le_of_ble_eq_true rfl) (Nat.le_of_ble_eq_true rfl) rfl rfl (Nat.le_of_ble_eq_true rfl) dX5_firstFault_95 (fun hz9 => ?_)
      refine J_isub C dX5_firstFault_98 h (fun v10 hv11 h => ?_)
      refine J_iadd C dX5_firstFault_99 h (fun v12 hv13 h => ?_)
      refine J_istore_n (lo2 := [(3, vi v12), (0, .ref (gad g 44)), (1, .ref (gad g x1)), (2, vi x2), (4, vi x4)]) C 3 dX5_firstFault_100 rfl (by decide) rfl ?_
      refine J_iload_n C 3 dX5_firstFault_101 rfl 0 rfl ?_
      refine J_bipush C dX5_firstFault_102 (bp8 (by decide) (by decide)) ?_
      refine J_icmp_le C hv13 rl_8 (tgt := 109) dX5_firstFault_104 (by decide) h (fun h c28 => ?_) (fun h c28 => ?_)
      · refine J_iload_n C 2 dX5_firstFault_109 rfl 3 rfl ?_
        refine J_iload C 4 dX5_firstFault_110 4 rfl ?_
        refine J_iconst C dX5_firstFault_112 ?_
        refine J_icmp_gt C h4 rl_5 (tgt := 120) dX5_firstFault_113 (by decide) h (fun h c27 => ?_) (fun h c27 => ?_)
        · refine J_iconst C dX5_firstFault_116 ?_
          refine J_goto C (tgt := 121) dX5_firstFault_117 (by decide) ?_
          exact J_sub [1, 2, 0] rfl (pc14 v12 hv13 2 rl_2 x2 h2 σ hσ h)
        · refine J_iconst C dX5_firstFault_120 ?_
          exact J_sub [1, 2, 0] rfl (pc14 v12 hv13 1 rl_1 x2 h2 σ hσ h)
      · have e9 := sE h
        exact J_sub [3] rfl (k3 (x2, σ) e9.symm h2 hσ)
    refine J_iload_n C 2 dX5_firstFault_9 rfl 2 rfl ?_
    refine J_aload_n C 1 dX5_firstFault_10 rfl 1 rfl ?_
    refine J_getI C fl_RX5_25 h1.1 rfl dX5_firstFault_11 ?_
    refine J_icmp_ge C h2 (hσ x1 1 h1.2.1) (tgt := 136) dX5_firstFault_14 (by decide) h (fun h c50 => ?_) (fun h c50 => ?_)
    · refine J_aload_n C 1 dX5_firstFault_17 rfl 1 rfl ?_
      refine J_iload_n C 2 dX5_firstFault_18 rfl 2 rfl ?_
      obtain ⟨q3, cq3, h⟩ := bdS h
      refine J_callV C mw_X9_numberAt ml_RX5_30 (m_X9_numberAt x.2.1 g (CxI C) x1 h1 x2 h2 σ hσ q3 cq3) h1.1 rfl (Nat.le_of_ble_eq_true rfl) (Nat.le_of_ble_eq_true rfl) rfl rfl (Nat.le_of_ble_eq_true rfl) dX5_firstFault_19 (fun hz4 => ?_)
      refine J_istore (lo2 := [(4, vi q3), (0, .ref (gad g 44)), (1, .ref (gad g x1)), (2, vi x2), (3, vi x3)]) C 4 dX5_firstFault_22 (by decide) rfl ?_
      refine J_iload C 4 dX5_firstFault_24 0 rfl ?_
      refine J_if_ne C hz4 (tgt := 40) dX5_firstFault_26 (by decide) h (fun h c49 => ?_) (fun h c49 => ?_)
      · have e9 := sE h
        exact J_sub [3, 4] rfl (k0 (x2, x3, σ) e9.symm h2 h3 hσ)
      · refine J_iload C 4 dX5_firstFault_40 0 rfl ?_
        refine J_if_lt C hz4 (tgt := 61) dX5_firstFault_42 (by decide) h (fun h c48 => ?_) (fun h c48 => ?_)
        · have e9 := sE h
          exact J_sub [3] rfl (k1 (x2, σ) e9.symm h2 hσ)
        · refine J_iload C 4 dX5_firstFault_45 0 rfl ?_
          refine J_bipush C dX5_firstFault_47 (bp8 (by decide) (by decide)) ?_
          refine J_icmp_gt C hz4 rl_8 (tgt := 61) dX5_firstFault_49 (by decide) h (fun h c47 => ?_) (fun h c47 => ?_)
          · refine J_iload_n C 3 dX5_firstFault_52 rfl 4 rfl ?_
            refine J_iload C 4 dX5_firstFault_53 0 rfl ?_
            obtain ⟨q5, cq5, h⟩ := bdS h
            refine J_callS C mw_X5_takes ml_RX5_34 (m_X5_takes x.2.1 g (CxI C) q3 hz4 σ hσ q5 cq5) (Nat.le_of_ble_eq_true rfl) (Nat.le_of_ble_eq_true rfl) rfl rfl (Nat.le_of_ble_eq_true rfl) dX5_firstFault_55 (fun hz6 => ?_)
            refine J_icmp_ge C h3 hz6 (tgt := 63) dX5_firstFault_58 (by decide) h (fun h c46 => ?_) (fun h c46 => ?_)
            · have e9 := sE h
              exact J_sub [3] rfl (k1 (x2, σ) e9.symm h2 hσ)
            · refine J_iload C 4 dX5_firstFault_63 0 rfl ?_
              refine J_iconst C dX5_firstFault_65 ?_
              refine J_icmp_gt C hz4 rl_5 (tgt := 91) dX5_firstFault_66 (by decide) h (fun h c45 => ?_) (fun h c45 => ?_)
              · refine J_iload_n C 2 dX5_firstFault_69 rfl 3 rfl ?_
                refine J_iconst C dX5_firstFault_70 ?_
                refine J_iadd C dX5_firstFault_71 h (fun v37 hv38 h => ?_)
                refine J_aload_n C 1 dX5_firstFault_72 rfl 2 rfl ?_
                refine J_getI C fl_RX5_25 h1.1 rfl dX5_firstFault_73 ?_
                refine J_icmp_ge C hv38 (hσ x1 1 h1.2.1) (tgt := 89) dX5_firstFault_76 (by decide) h (fun h c44 => ?_) (fun h c44 => ?_)
                · refine J_aload_n C 1 dX5_firstFault_79 rfl 2 rfl ?_
                  refine J_iload_n C 2 dX5_firstFault_80 rfl 3 rfl ?_
                  refine J_iconst C dX5_firstFault_81 ?_
                  refine J_iadd C dX5_firstFault_82 h (fun v39 hv40 h => ?_)
                  obtain ⟨q41, cq41, h⟩ := bdS h
                  refine J_callV C mw_X9_numberAt ml_RX5_30 (m_X9_numberAt x.2.1 g (CxI C) x1 h1 v39 hv40 σ hσ q41 cq41) h1.1 rfl (Nat.le_of_ble_eq_true rfl) (Nat.le_of_ble_eq_true rfl) rfl rfl (Nat.le_of_ble_eq_true rfl) dX5_firstFault_83 (fun hz42 => ?_)
                  refine J_if_ge C hz42 (tgt := 91) dX5_firstFault_86 (by decide) h (fun h c43 => ?_) (fun h c43 => ?_)
                  · have e9 := sE h
                    exact J_sub [3] rfl (k2 (x2, σ) e9.symm h2 hσ)
                  · exact J_sub [1, 2, 3, 4, 0] rfl (pc7 x2 h2 x3 h3 q3 hz4 σ hσ h)
                · have e9 := sE h
                  exact J_sub [3] rfl (k2 (x2, σ) e9.symm h2 hσ)
              · exact J_sub [1, 2, 3, 4, 0] rfl (pc7 x2 h2 x3 h3 q3 hz4 σ hσ h)
          · have e9 := sE h
            exact J_sub [3] rfl (k1 (x2, σ) e9.symm h2 hσ)
    · have e9 := sE h
      exact J_sub [1] rfl (k4 σ e9.symm hσ)
set_option maxRecDepth 100000 in
set_option maxHeartbeats 4000000 in
theorem m_X5_firstFault (l : Launch) (g : Gm) (hg : gInj yC g) (x1 : Nat) (h1 : isTape x1) (σ : Sg) (hσ : wfS yC σ) (q : Int × Sg) (h : fX5_firstFault x1 σ = some q) : CJ l yC g yX5_firstFault cX5_firstFault 5 (some .int) 3 63 [.ref (gad g 44), .ref (gad g x1)] σ (some (vi q.1)) q.2 ((rg q.1) ∧ wfS yC q.2) := by
  refine CJ_of hg (by decide) rfl (Nat.le_of_ble_eq_true rfl) (lo := [(0, .ref (gad g 44)), (1, .ref (gad g x1))]) rfl (fun x C E => ?_)
  unfold fX5_firstFault at h
  refine J_iconst C dX5_firstFault_0 ?_
  refine J_istore_n (lo2 := [(2, vi 0), (0, .ref (gad g 44)), (1, .ref (gad g x1))]) C 2 dX5_firstFault_1 rfl (by decide) rfl ?_
  refine J_iconst C dX5_firstFault_2 ?_
  refine J_istore_n (lo2 := [(3, vi 0), (2, vi 0), (0, .ref (gad g 44)), (1, .ref (gad g x1))]) C 3 dX5_firstFault_3 rfl (by decide) rfl ?_
  refine J_aload_n C 0 dX5_firstFault_4 rfl 2 rfl ?_
  refine J_iconst C dX5_firstFault_5 ?_
  refine J_putI C fl_RX5_21 fp_RX5_4 oC_44 rfl rfl lC_44 hσ rl_0 dX5_firstFault_6 h (fun σ1 hσ2 h => ?_)
  obtain ⟨q51, cq51, h⟩ := bdS h
  refine J_sub [2, 3, 1, 0] rfl (wX5_firstFault_L9 C fu x1 h1 0 rl_0 0 rl_0 σ1 hσ2 q51 cq51 (fun a52 ea52 hr53 hr54 hσ55 => ?_) (fun a57 ea57 hr58 hσ59 => ?_) (fun a60 ea60 hr61 hσ62 => ?_) (fun a63 ea63 hr64 hσ65 => ?_) (fun a66 ea66 hσ67 => ?_))
  · subst ea52
    have h := elL h
    refine J_iload_n C 3 dX5_firstFault_29 rfl 1 rfl ?_
    refine J_iconst C dX5_firstFault_30 ?_
    refine J_icmp_ne C hr54 rl_1 (tgt := 38) dX5_firstFault_31 (by decide) h (fun h c56 => ?_) (fun h c56 => ?_)
    · refine J_iconst C dX5_firstFault_34 ?_
      refine J_goto C (tgt := 39) dX5_firstFault_35 (by decide) ?_
      have e9 := sE h
      subst e9
      exact J_iret C E ⟨rl_m1, hσ55⟩ dX5_firstFault_39
    · refine J_iload_n C 2 dX5_firstFault_38 rfl 0 rfl ?_
      have e9 := sE h
      subst e9
      exact J_iret C E ⟨hr53, hσ55⟩ dX5_firstFault_39
  · subst ea57
    have h := elR h
    have h := elL h
    refine J_iload_n C 2 dX5_firstFault_61 rfl 0 rfl ?_
    have e9 := sE h
    subst e9
    exact J_iret C E ⟨hr58, hσ59⟩ dX5_firstFault_62
  · subst ea60
    have h := elR h
    have h := elR h
    have h := elL h
    refine J_iload_n C 2 dX5_firstFault_89 rfl 0 rfl ?_
    have e9 := sE h
    subst e9
    exact J_iret C E ⟨hr61, hσ62⟩ dX5_firstFault_90
  · subst ea63
    have h := elR h
    have h := elR h
    have h := elR h
    have h := elL h
    refine J_iload_n C 2 dX5_firstFault_107 rfl 0 rfl ?_
    have e9 := sE h
    subst e9
    exact J_iret C E ⟨hr64, hσ65⟩ dX5_firstFault_108
  · subst ea66
    have h := elR h
    have h := elR h
    have h := elR h
    have h := elR h
    refine J_aload_n C 1 dX5_firstFault_136 rfl 0 rfl ?_
    refine J_getI C fl_RX5_25 h1.1 rfl dX5_firstFault_137 ?_
    have e9 := sE h
    subst e9
    exact J_iret C E ⟨(hσ67 x1 1 h1.2.1), hσ67⟩ dX5_firstFault_140
set_option maxRecDepth 100000 in
set_option maxHeartbeats 4000000 in
theorem wX5_add_L21 {x : Ct} {g : Gm} (C : Cx x yC g 5 cX5_add RX5 3 63) : ∀ (n : Nat) (x1 : Nat) (h1 : isTape x1) (x2 : Int) (h2 : rg x2) (x3 : Int) (h3 : rg x3) (σ : Sg) (hσ : wfS yC σ) (q : Int × Sg) (h : fX5_add_L21 n x1 x2 x3 σ = some q) (k : rg q.1 → wfS yC q.2 → J x yC g 5 99 [(0, .ref (gad g 44)), (3, vi q.1)] [] q.2), J x yC g 5 21 [(0, .ref (gad g 44)), (1, .ref (gad g x1)), (2, vi x2), (3, vi x3)] [] σ := by
  intro n
  induction n with
  | zero =>
    intro x1 h1 x2 h2 x3 h3 σ hσ q h k
    exact absurd h (by intro z; cases z)
  | succ n ih =>
    intro x1 h1 x2 h2 x3 h3 σ hσ q h k
    rw [fX5_add_L21] at h
    have pc19 : ∀ (x3 : Int) (h3 : rg x3) (y0 : Int) (g0 : rg y0) (y1 : Int) (g1 : rg y1) (σ : Sg) (hσ : wfS yC σ), fX5_add_L21P91 (fX5_add_L21 n) x1 x3 y0 y1 σ = some q → J x yC g 5 91 [(0, .ref (gad g 44)), (1, .ref (gad g x1)), (3, vi x3)] [vi y0, vi y1] σ := by
      intro x3 h3 y0 g0 y1 g1 σ hσ h
      unfold fX5_add_L21P91 at h
      refine J_iadd C dX5_add_91 h (fun v20 hv21 h => ?_)
      refine J_istore_n (lo2 := [(2, vi v20), (0, .ref (gad g 44)), (1, .ref (gad g x1)), (3, vi x3)]) C 2 dX5_add_92 rfl (by decide) rfl ?_
      refine J_iinc C 3 3 dX5_add_93 rfl (by decide) h (fun v22 hv23 h => ?_)
      refine J_goto C (tgt := 21) dX5_add_96 (by decide) ?_
      exact J_sub [2, 3, 1, 0] rfl (ih x1 h1 v20 hv21 v22 hv23 σ hσ q h k)
    refine J_iload_n C 3 dX5_add_21 rfl 3 rfl ?_
    refine J_aload_n C 0 dX5_add_22 rfl 0 rfl ?_
    refine J_getI C fl_RX5_21 oC_44 rfl dX5_add_23 ?_
    refine J_icmp_ge C h3 (hσ 44 4 lC_44) (tgt := 99) dX5_add_26 (by decide) h (fun h c30 => ?_) (fun h c30 => ?_)
    · refine J_iload_n C 3 dX5_add_29 rfl 3 rfl ?_
      refine J_bipush C dX5_add_30 (bp8 (by decide) (by decide)) ?_
      refine J_icmp_ge C h3 rl_20 (tgt := 99) dX5_add_32 (by decide) h (fun h c29 => ?_) (fun h c29 => ?_)
      · refine J_aload_n C 1 dX5_add_35 rfl 1 rfl ?_
        refine J_iload_n C 2 dX5_add_36 rfl 2 rfl ?_
        obtain ⟨q1, cq1, h⟩ := bdS h
        refine J_callV C mw_X9_numberAt ml_RX5_30 (m_X9_numberAt x.2.1 g (CxI C) x1 h1 x2 h2 σ hσ q1 cq1) h1.1 rfl (Nat.le_of_ble_eq_true rfl) (Nat.le_of_ble_eq_true rfl) rfl rfl (Nat.le_of_ble_eq_true rfl) dX5_add_37 (fun hz2 => ?_)
        refine J_istore (lo2 := [(4, vi q1), (0, .ref (gad g 44)), (1, .ref (gad g x1)), (2, vi x2), (3, vi x3)]) C 4 dX5_add_40 (by decide) rfl ?_
        refine J_aload_n C 0 dX5_add_42 rfl 1 rfl ?_
        refine J_getR C fl_RX5_9 oC_44 rfl dX5_add_43 ?_
        refine J_aload_n C 0 dX5_add_46 rfl 1 rfl ?_
        refine J_getI C fl_RX5_37 oC_44 rfl dX5_add_47 ?_
        refine J_bipush C dX5_add_50 (bp8 (by decide) (by decide)) ?_
        refine J_imul C dX5_add_52 h (fun v3 hv4 h => ?_)
        refine J_iload_n C 3 dX5_add_53 rfl 4 rfl ?_
        refine J_iadd C dX5_add_54 h (fun v5 hv6 h => ?_)
        refine J_iload C 4 dX5_add_55 0 rfl ?_
        refine J_iast C aC_45 hσ hz2 dX5_add_57 h (fun σ7 hσ8 h => ?_)
        refine J_aload_n C 0 dX5_add_58 rfl 1 rfl ?_
        refine J_getR C fl_RX5_15 oC_44 rfl dX5_add_59 ?_
        refine J_aload_n C 0 dX5_add_62 rfl 1 rfl ?_
        refine J_getI C fl_RX5_37 oC_44 rfl dX5_add_63 ?_
        refine J_bipush C dX5_add_66 (bp8 (by decide) (by decide)) ?_
        refine J_imul C dX5_add_68 h (fun v9 hv10 h => ?_)
        refine J_iload_n C 3 dX5_add_69 rfl 4 rfl ?_
        refine J_iadd C dX5_add_70 h (fun v11 hv12 h => ?_)
        refine J_aload_n C 1 dX5_add_71 rfl 2 rfl ?_
        refine J_iload_n C 2 dX5_add_72 rfl 3 rfl ?_
        refine J_iconst C dX5_add_73 ?_
        refine J_iadd C dX5_add_74 h (fun v13 hv14 h => ?_)
        obtain ⟨q15, cq15, h⟩ := bdS h
        refine J_callV C mw_X9_numberAt ml_RX5_30 (m_X9_numberAt x.2.1 g (CxI C) x1 h1 v13 hv14 σ7 hσ8 q15 cq15) h1.1 rfl (Nat.le_of_ble_eq_true rfl) (Nat.le_of_ble_eq_true rfl) rfl rfl (Nat.le_of_ble_eq_true rfl) dX5_add_75 (fun hz16 => ?_)
        refine J_iast C aC_46 hσ8 hz16 dX5_add_78 h (fun σ17 hσ18 h => ?_)
        refine J_iload_n C 2 dX5_add_79 rfl 3 rfl ?_
        refine J_iload C 4 dX5_add_80 0 rfl ?_
        refine J_iconst C dX5_add_82 ?_
        refine J_icmp_gt C hz2 rl_5 (tgt := 90) dX5_add_83 (by decide) h (fun h c28 => ?_) (fun h c28 => ?_)
        · refine J_iconst C dX5_add_86 ?_
          refine J_goto C (tgt := 91) dX5_add_87 (by decide) ?_
          exact J_sub [1, 2, 4] rfl (pc19 x3 h3 2 rl_2 x2 h2 σ17 hσ18 h)
        · refine J_iconst C dX5_add_90 ?_
          exact J_sub [1, 2, 4] rfl (pc19 x3 h3 1 rl_1 x2 h2 σ17 hσ18 h)
      · have e9 := sE h
        subst e9
        exact J_sub [0, 3] rfl (k h3 hσ)
    · have e9 := sE h
      subst e9
      exact J_sub [0, 3] rfl (k h3 hσ)
set_option maxRecDepth 100000 in
set_option maxHeartbeats 4000000 in
theorem m_X5_add (l : Launch) (g : Gm) (hg : gInj yC g) (x1 : Nat) (h1 : isTape x1) (σ : Sg) (hσ : wfS yC σ) (q : Sg) (h : fX5_add x1 σ = some q) : CJ l yC g yX5_add cX5_add 5 none 3 63 [.ref (gad g 44), .ref (gad g x1)] σ none q (wfS yC q) := by
  refine CJ_of hg (by decide) rfl (Nat.le_of_ble_eq_true rfl) (lo := [(0, .ref (gad g 44)), (1, .ref (gad g x1))]) rfl (fun x C E => ?_)
  unfold fX5_add at h
  refine J_aload_n C 0 dX5_add_0 rfl 0 rfl ?_
  refine J_getI C fl_RX5_37 oC_44 rfl dX5_add_1 ?_
  refine J_if_lt C (hσ 44 3 lC_44) (tgt := 16) dX5_add_4 (by decide) h (fun h c41 => ?_) (fun h c41 => ?_)
  · have e9 := sE h
    subst e9
    exact J_vret C E hσ dX5_add_16
  · refine J_aload_n C 0 dX5_add_7 rfl 0 rfl ?_
    refine J_getI C fl_RX5_37 oC_44 rfl dX5_add_8 ?_
    refine J_bipush C dX5_add_11 (bp8 (by decide) (by decide)) ?_
    refine J_icmp_lt C (hσ 44 3 lC_44) rl_8 (tgt := 17) dX5_add_13 (by decide) h (fun h c40 => ?_) (fun h c40 => ?_)
    · refine J_iconst C dX5_add_17 ?_
      refine J_istore_n (lo2 := [(2, vi 0), (0, .ref (gad g 44)), (1, .ref (gad g x1))]) C 2 dX5_add_18 rfl (by decide) rfl ?_
      refine J_iconst C dX5_add_19 ?_
      refine J_istore_n (lo2 := [(3, vi 0), (2, vi 0), (0, .ref (gad g 44)), (1, .ref (gad g x1))]) C 3 dX5_add_20 rfl (by decide) rfl ?_
      obtain ⟨q31, cq31, h⟩ := bdS h
      refine J_sub [2, 3, 1, 0] rfl (wX5_add_L21 C fu x1 h1 0 rl_0 0 rl_0 σ hσ q31 cq31 (fun hr32 hσ33 => ?_))
      refine J_aload_n C 0 dX5_add_99 rfl 0 rfl ?_
      refine J_getR C fl_RX5_18 oC_44 rfl dX5_add_100 ?_
      refine J_aload_n C 0 dX5_add_103 rfl 0 rfl ?_
      refine J_getI C fl_RX5_37 oC_44 rfl dX5_add_104 ?_
      refine J_iload_n C 3 dX5_add_107 rfl 1 rfl ?_
      refine J_iast C aC_47 hσ33 hr32 dX5_add_108 h (fun σ34 hσ35 h => ?_)
      refine J_aload_n C 0 dX5_add_109 rfl 0 rfl ?_
      refine J_dup C rfl dX5_add_110 ?_
      refine J_getI C fl_RX5_37 oC_44 rfl dX5_add_111 ?_
      refine J_iconst C dX5_add_114 ?_
      refine J_iadd C dX5_add_115 h (fun v36 hv37 h => ?_)
      refine J_putI C fl_RX5_37 fp_RX5_3 oC_44 rfl rfl lC_44 hσ35 hv37 dX5_add_116 h (fun σ38 hσ39 h => ?_)
      have e9 := sE h
      subst e9
      exact J_vret C E hσ39 dX5_add_119
    · have e9 := sE h
      subst e9
      exact J_vret C E hσ dX5_add_16
set_option maxRecDepth 100000 in
set_option maxHeartbeats 4000000 in
theorem m_X11_hold (l : Launch) (g : Gm) (hg : gInj yC g) (x1 : Int) (h1 : rg x1) (σ : Sg) (hσ : wfS yC σ) (q : Int × Sg) (h : fX11_hold x1 σ = some q) : CJ l yC g yX11_hold cX11_hold 5 (some .int) 4 87 [.ref (gad g 0), vi x1] σ (some (vi q.1)) q.2 ((rg q.1) ∧ wfS yC q.2) := by
  refine CJ_of hg (by decide) rfl (Nat.le_of_ble_eq_true rfl) (lo := [(0, .ref (gad g 0)), (1, vi x1)]) rfl (fun x C E => ?_)
  unfold fX11_hold at h
  refine J_aload_n C 0 dX11_hold_0 rfl 0 rfl ?_
  refine J_iload_n C 1 dX11_hold_1 rfl 1 rfl ?_
  rcases lt_or h with ⟨c1, h⟩ | ⟨c1, h⟩
  · refine J_callV C mw_X11_tapeAt ml_RX11_171 (m_X11_tapeAt1 x.2.1 g (CxI C) x1 h1 σ hσ c1) oC_0 rfl (Nat.le_of_ble_eq_true rfl) (Nat.le_of_ble_eq_true rfl) rfl rfl (Nat.le_of_ble_eq_true rfl) dX11_hold_2 (fun _ => ?_)
    refine J_astore_n (lo2 := [(2, .ref (gad g (tpO x1))), (0, .ref (gad g 0)), (1, vi x1)]) C 2 dX11_hold_5 rfl (by decide) rfl ?_
    refine J_aload_n C 2 dX11_hold_6 rfl 0 rfl ?_
    refine J_nonnull C (tgt := 12) dX11_hold_7 (by decide) ?_
    refine J_aload_n C 2 dX11_hold_12 rfl 0 rfl ?_
    refine J_iconst C dX11_hold_13 ?_
    obtain ⟨q2, cq2, h⟩ := bdS h
    refine J_callV C mw_X9_refusalAs ml_RX11_175 (m_X9_refusalAs x.2.1 g (CxI C) (tpO x1) (tpA c1.1 c1.2) 1 rl_1 σ hσ q2 cq2) (tpA c1.1 c1.2).1 rfl (Nat.le_of_ble_eq_true rfl) (Nat.le_of_ble_eq_true rfl) rfl rfl (Nat.le_of_ble_eq_true rfl) dX11_hold_14 (fun hz3 => ?_)
    refine J_istore_n (lo2 := [(3, vi q2), (2, .ref (gad g (tpO x1))), (0, .ref (gad g 0)), (1, vi x1)]) C 3 dX11_hold_17 rfl (by decide) rfl ?_
    refine J_iload_n C 3 dX11_hold_18 rfl 0 rfl ?_
    refine J_if_eq C hz3 (tgt := 28) dX11_hold_19 (by decide) h (fun h c17 => ?_) (fun h c17 => ?_)
    · refine J_aload_n C 0 dX11_hold_28 rfl 2 rfl ?_
      refine J_getR C fl_RX11_51 oC_0 rfl dX11_hold_29 ?_
      refine J_aload_n C 2 dX11_hold_32 rfl 1 rfl ?_
      obtain ⟨q4, cq4, h⟩ := bdS h
      refine J_callV C mw_X5_firstFault ml_RX11_274 (m_X5_firstFault x.2.1 g (CxI C) (tpO x1) (tpA c1.1 c1.2) σ hσ q4 cq4) oC_44 rfl (Nat.le_of_ble_eq_true rfl) (Nat.le_of_ble_eq_true rfl) rfl rfl (Nat.le_of_ble_eq_true rfl) dX11_hold_33 (fun hz5 => ?_)
      refine J_istore (lo2 := [(4, vi q4.1), (3, vi q2), (2, .ref (gad g (tpO x1))), (0, .ref (gad g 0)), (1, vi x1)]) C 4 dX11_hold_36 (by decide) rfl ?_
      refine J_iload C 4 dX11_hold_38 0 rfl ?_
      refine J_if_lt C hz5.1 (tgt := 49) dX11_hold_40 (by decide) h (fun h c14 => ?_) (fun h c14 => ?_)
      · refine J_aload_n C 0 dX11_hold_49 rfl 3 rfl ?_
        refine J_getR C fl_RX11_51 oC_0 rfl dX11_hold_50 ?_
        refine J_getI C fl_RX11_94 oC_44 rfl dX11_hold_53 ?_
        refine J_bipush C dX11_hold_56 (bp8 (by decide) (by decide)) ?_
        refine J_icmp_ge C (hz5.2 44 3 lC_44) rl_8 (tgt := 73) dX11_hold_58 (by decide) h (fun h c11 => ?_) (fun h c11 => ?_)
        · refine J_aload_n C 0 dX11_hold_61 rfl 3 rfl ?_
          refine J_getR C fl_RX11_51 oC_0 rfl dX11_hold_62 ?_
          refine J_getI C fl_RX11_275 oC_44 rfl dX11_hold_65 ?_
          refine J_bipush C dX11_hold_68 (bp8 (by decide) (by decide)) ?_
          refine J_icmp_le C (hz5.2 44 4 lC_44) rl_20 (tgt := 76) dX11_hold_70 (by decide) h (fun h c10 => ?_) (fun h c10 => ?_)
          · refine J_aload_n C 0 dX11_hold_76 rfl 3 rfl ?_
            refine J_getR C fl_RX11_51 oC_0 rfl dX11_hold_77 ?_
            refine J_aload_n C 2 dX11_hold_80 rfl 2 rfl ?_
            obtain ⟨q6, cq6, h⟩ := bdS h
            refine J_callV C mw_X5_add ml_RX11_278 (m_X5_add x.2.1 g (CxI C) (tpO x1) (tpA c1.1 c1.2) q4.2 hz5.2 q6 cq6) oC_44 rfl (Nat.le_of_ble_eq_true rfl) (Nat.le_of_ble_eq_true rfl) rfl rfl (Nat.le_of_ble_eq_true rfl) dX11_hold_81 (fun hz7 => ?_)
            refine J_aload_n C 0 dX11_hold_84 rfl 3 rfl ?_
            refine J_getR C fl_RX11_51 oC_0 rfl dX11_hold_85 ?_
            refine J_getI C fl_RX11_94 oC_44 rfl dX11_hold_88 ?_
            refine J_iconst C dX11_hold_91 ?_
            refine J_isub C dX11_hold_92 h (fun v8 hv9 h => ?_)
            have e9 := sE h
            subst e9
            exact J_iret C E ⟨hv9, hz7⟩ dX11_hold_93
          · refine J_bipush C dX11_hold_73 (bp8 (by decide) (by decide)) ?_
            have e9 := sE h
            subst e9
            exact J_iret C E ⟨rl_m2, hz5.2⟩ dX11_hold_75
        · refine J_bipush C dX11_hold_73 (bp8 (by decide) (by decide)) ?_
          have e9 := sE h
          subst e9
          exact J_iret C E ⟨rl_m2, hz5.2⟩ dX11_hold_75
      · refine J_bipush C dX11_hold_43 (bp8 (by decide) (by decide)) ?_
        refine J_iload C 4 dX11_hold_45 0 rfl ?_
        refine J_isub C dX11_hold_47 h (fun v12 hv13 h => ?_)
        have e9 := sE h
        subst e9
        exact J_iret C E ⟨hv13, hz5.2⟩ dX11_hold_48
    · refine J_aload_n C 0 dX11_hold_22 rfl 2 rfl ?_
      refine J_iload_n C 3 dX11_hold_23 rfl 0 rfl ?_
      obtain ⟨q15, cq15, h⟩ := bdS h
      refine J_callV C mw_X11_refuse ml_RX11_178 (m_X11_refuse x.2.1 g (CxI C) q2 hz3 σ hσ q15 cq15) oC_0 rfl (Nat.le_of_ble_eq_true rfl) (Nat.le_of_ble_eq_true rfl) rfl rfl (Nat.le_of_ble_eq_true rfl) dX11_hold_24 (fun hz16 => ?_)
      have e9 := sE h
      subst e9
      exact J_iret C E ⟨hz16.1, hz16.2⟩ dX11_hold_27
  · refine J_callV C mw_X11_tapeAt ml_RX11_171 (m_X11_tapeAt0 x.2.1 g (CxI C) x1 h1 σ hσ c1) oC_0 rfl (Nat.le_of_ble_eq_true rfl) (Nat.le_of_ble_eq_true rfl) rfl rfl (Nat.le_of_ble_eq_true rfl) dX11_hold_2 (fun _ => ?_)
    refine J_astore_nN (lo2 := [(2, .null), (0, .ref (gad g 0)), (1, vi x1)]) C 2 dX11_hold_5 rfl (by decide) rfl ?_
    refine J_aload_nN C 2 dX11_hold_6 rfl 0 rfl ?_
    refine J_nonnullN C dX11_hold_7 ?_
    refine J_iconst C dX11_hold_10 ?_
    have e9 := sE h
    subst e9
    exact J_iret C E ⟨rl_m1, hσ⟩ dX11_hold_11
set_option maxRecDepth 100000 in
set_option maxHeartbeats 4000000 in
theorem m_X11_holdless (l : Launch) (g : Gm) (hg : gInj yC g)  (σ : Sg) (hσ : wfS yC σ) (q : Int × Sg) (h : fX11_holdless  σ = some q) : CJ l yC g yX11_holdless cX11_holdless 2 (some .int) 0 0 [.ref (gad g 0)] σ (some (vi q.1)) q.2 ((rg q.1) ∧ wfS yC q.2) := by
  refine CJ_of hg (by decide) rfl (Nat.le_of_ble_eq_true rfl) (lo := [(0, .ref (gad g 0))]) rfl (fun x C E => ?_)
  unfold fX11_holdless at h
  refine J_aload_n C 0 dX11_holdless_0 rfl 0 rfl ?_
  refine J_getR C fl_RX11_51 oC_0 rfl dX11_holdless_1 ?_
  refine J_getI C fl_RX11_94 oC_44 rfl dX11_holdless_4 ?_
  refine J_istore_n (lo2 := [(1, vi (σ 44 3)), (0, .ref (gad g 0))]) C 1 dX11_holdless_7 rfl (by decide) rfl ?_
  refine J_aload_n C 0 dX11_holdless_8 rfl 1 rfl ?_
  refine J_getR C fl_RX11_51 oC_0 rfl dX11_holdless_9 ?_
  refine J_iconst C dX11_holdless_12 ?_
  refine J_putI C fl_RX11_94 fp_RX5_3 oC_44 rfl rfl lC_44 hσ rl_0 dX11_holdless_13 h (fun σ1 hσ2 h => ?_)
  refine J_iload_n C 1 dX11_holdless_16 rfl 0 rfl ?_
  have e9 := sE h
  subst e9
  exact J_iret C E ⟨(hσ 44 3 lC_44), hσ2⟩ dX11_holdless_17
set_option maxRecDepth 100000 in
set_option maxHeartbeats 4000000 in
theorem m_X7_faultOf (l : Launch) (g : Gm) (hg : gInj yC g) (x1 : Int) (h1 : rg x1) (σ : Sg) (hσ : wfS yC σ) (q : Int) (h : fX7_faultOf x1 σ = some q) : CJ l yC g yX7_faultOf cX7_faultOf 2 (some .int) 0 0 [.ref (gad g 48), vi x1] σ (some (vi q)) σ (rg q) := by
  refine CJ_of hg (by decide) rfl (Nat.le_of_ble_eq_true rfl) (lo := [(0, .ref (gad g 48)), (1, vi x1)]) rfl (fun x C E => ?_)
  unfold fX7_faultOf at h
  refine J_iload_n C 1 dX7_faultOf_0 rfl 1 rfl ?_
  refine J_if_lt C h1 (tgt := 19) dX7_faultOf_1 (by decide) h (fun h c4 => ?_) (fun h c4 => ?_)
  · refine J_iconst C dX7_faultOf_19 ?_
    have e9 := sE h
    subst e9
    exact J_iret C E rl_0 dX7_faultOf_20
  · refine J_iload_n C 1 dX7_faultOf_4 rfl 1 rfl ?_
    refine J_bipush C dX7_faultOf_5 (bp8 (by decide) (by decide)) ?_
    refine J_icmp_ge C h1 rl_120 (tgt := 19) dX7_faultOf_7 (by decide) h (fun h c3 => ?_) (fun h c3 => ?_)
    · refine J_aload_n C 0 dX7_faultOf_10 rfl 0 rfl ?_
      refine J_getR C fl_RX7_9 oC_48 rfl dX7_faultOf_11 ?_
      refine J_iload_n C 1 dX7_faultOf_14 rfl 1 rfl ?_
      refine J_iald C aC_49 hσ dX7_faultOf_15 h (fun v1 hv2 h => ?_)
      refine J_goto C (tgt := 20) dX7_faultOf_16 (by decide) ?_
      have e9 := sE h
      subst e9
      exact J_iret C E hv2 dX7_faultOf_20
    · refine J_iconst C dX7_faultOf_19 ?_
      have e9 := sE h
      subst e9
      exact J_iret C E rl_0 dX7_faultOf_20
set_option maxRecDepth 100000 in
set_option maxHeartbeats 4000000 in
theorem m_X7_setFault (l : Launch) (g : Gm) (hg : gInj yC g) (x1 : Int) (h1 : rg x1) (x2 : Int) (h2 : rg x2) (σ : Sg) (hσ : wfS yC σ) (q : Sg) (h : fX7_setFault x1 x2 σ = some q) : CJ l yC g yX7_setFault cX7_setFault 3 none 0 0 [.ref (gad g 48), vi x1, vi x2] σ none q (wfS yC q) := by
  refine CJ_of hg (by decide) rfl (Nat.le_of_ble_eq_true rfl) (lo := [(0, .ref (gad g 48)), (1, vi x1), (2, vi x2)]) rfl (fun x C E => ?_)
  unfold fX7_setFault at h
  refine J_iload_n C 1 dX7_setFault_0 rfl 1 rfl ?_
  refine J_if_lt C h1 (tgt := 17) dX7_setFault_1 (by decide) h (fun h c4 => ?_) (fun h c4 => ?_)
  · have e9 := sE h
    subst e9
    exact J_vret C E hσ dX7_setFault_17
  · refine J_iload_n C 1 dX7_setFault_4 rfl 1 rfl ?_
    refine J_bipush C dX7_setFault_5 (bp8 (by decide) (by decide)) ?_
    refine J_icmp_ge C h1 rl_120 (tgt := 17) dX7_setFault_7 (by decide) h (fun h c3 => ?_) (fun h c3 => ?_)
    · refine J_aload_n C 0 dX7_setFault_10 rfl 0 rfl ?_
      refine J_getR C fl_RX7_9 oC_48 rfl dX7_setFault_11 ?_
      refine J_iload_n C 1 dX7_setFault_14 rfl 1 rfl ?_
      refine J_iload_n C 2 dX7_setFault_15 rfl 2 rfl ?_
      refine J_iast C aC_49 hσ h2 dX7_setFault_16 h (fun σ1 hσ2 h => ?_)
      have e9 := sE h
      subst e9
      exact J_vret C E hσ2 dX7_setFault_17
    · have e9 := sE h
      subst e9
      exact J_vret C E hσ dX7_setFault_17
set_option maxRecDepth 100000 in
set_option maxHeartbeats 4000000 in
theorem m_X11_fault (l : Launch) (g : Gm) (hg : gInj yC g) (x1 : Int) (h1 : rg x1) (x2 : Int) (h2 : rg x2) (σ : Sg) (hσ : wfS yC σ) (q : Int × Sg) (h : fX11_fault x1 x2 σ = some q) : CJ l yC g yX11_fault cX11_fault 4 (some .int) 1 22 [.ref (gad g 0), vi x1, vi x2] σ (some (vi q.1)) q.2 ((rg q.1) ∧ wfS yC q.2) := by
  refine CJ_of hg (by decide) rfl (Nat.le_of_ble_eq_true rfl) (lo := [(0, .ref (gad g 0)), (1, vi x1), (2, vi x2)]) rfl (fun x C E => ?_)
  unfold fX11_fault at h
  refine J_aload_n C 0 dX11_fault_0 rfl 0 rfl ?_
  refine J_getR C fl_RX11_19 oC_0 rfl dX11_fault_1 ?_
  refine J_iload_n C 1 dX11_fault_4 rfl 1 rfl ?_
  obtain ⟨q1, cq1, h⟩ := bdS h
  refine J_callV C mw_X1_isCue ml_RX11_199 (m_X1_isCue x.2.1 g (CxI C) 19 cues_19 x1 h1 σ hσ q1 cq1) cues_19.1 rfl (Nat.le_of_ble_eq_true rfl) (Nat.le_of_ble_eq_true rfl) rfl rfl (Nat.le_of_ble_eq_true rfl) dX11_fault_5 (fun hz2 => ?_)
  refine J_if_eq C (rg01 hz2) (tgt := 21) dX11_fault_8 (by decide) h (fun h c9 => ?_) (fun h c9 => ?_)
  · refine J_iconst C dX11_fault_21 ?_
    have e9 := sE h
    subst e9
    exact J_iret C E ⟨rl_m1, hσ⟩ dX11_fault_22
  · refine J_iload_n C 2 dX11_fault_11 rfl 2 rfl ?_
    refine J_if_lt C h2 (tgt := 21) dX11_fault_12 (by decide) h (fun h c8 => ?_) (fun h c8 => ?_)
    · refine J_iconst C dX11_fault_21 ?_
      have e9 := sE h
      subst e9
      exact J_iret C E ⟨rl_m1, hσ⟩ dX11_fault_22
    · refine J_iload_n C 2 dX11_fault_15 rfl 2 rfl ?_
      refine J_bipush C dX11_fault_16 (bp8 (by decide) (by decide)) ?_
      refine J_icmp_le C h2 rl_6 (tgt := 23) dX11_fault_18 (by decide) h (fun h c7 => ?_) (fun h c7 => ?_)
      · refine J_aload_n C 0 dX11_fault_23 rfl 0 rfl ?_
        refine J_getR C fl_RX11_60 oC_0 rfl dX11_fault_24 ?_
        refine J_iload_n C 1 dX11_fault_27 rfl 1 rfl ?_
        obtain ⟨q3, cq3, h⟩ := bdS h
        refine J_callV C mw_X7_faultOf ml_RX11_282 (m_X7_faultOf x.2.1 g (CxI C) x1 h1 σ hσ q3 cq3) oC_48 rfl (Nat.le_of_ble_eq_true rfl) (Nat.le_of_ble_eq_true rfl) rfl rfl (Nat.le_of_ble_eq_true rfl) dX11_fault_28 (fun hz4 => ?_)
        refine J_istore_n (lo2 := [(3, vi q3), (0, .ref (gad g 0)), (1, vi x1), (2, vi x2)]) C 3 dX11_fault_31 rfl (by decide) rfl ?_
        refine J_aload_n C 0 dX11_fault_32 rfl 1 rfl ?_
        refine J_getR C fl_RX11_60 oC_0 rfl dX11_fault_33 ?_
        refine J_iload_n C 1 dX11_fault_36 rfl 2 rfl ?_
        refine J_iload_n C 2 dX11_fault_37 rfl 3 rfl ?_
        obtain ⟨q5, cq5, h⟩ := bdS h
        refine J_callV C mw_X7_setFault ml_RX11_285 (m_X7_setFault x.2.1 g (CxI C) x1 h1 x2 h2 σ hσ q5 cq5) oC_48 rfl (Nat.le_of_ble_eq_true rfl) (Nat.le_of_ble_eq_true rfl) rfl rfl (Nat.le_of_ble_eq_true rfl) dX11_fault_38 (fun hz6 => ?_)
        refine J_iload_n C 3 dX11_fault_41 rfl 0 rfl ?_
        have e9 := sE h
        subst e9
        exact J_iret C E ⟨hz4, hz6⟩ dX11_fault_42
      · refine J_iconst C dX11_fault_21 ?_
        have e9 := sE h
        subst e9
        exact J_iret C E ⟨rl_m1, hσ⟩ dX11_fault_22
set_option maxRecDepth 100000 in
set_option maxHeartbeats 4000000 in
theorem m_X11_halt (l : Launch) (g : Gm) (hg : gInj yC g) (x1 : Int) (h1 : rg x1) (σ : Sg) (hσ : wfS yC σ) (q : Int × Sg) (h : fX11_halt x1 σ = some q) : CJ l yC g yX11_halt cX11_halt 3 (some .int) 1 20 [.ref (gad g 0), vi x1] σ (some (vi q.1)) q.2 ((rg q.1) ∧ wfS yC q.2) := by
  refine CJ_of hg (by decide) rfl (Nat.le_of_ble_eq_true rfl) (lo := [(0, .ref (gad g 0)), (1, vi x1)]) rfl (fun x C E => ?_)
  unfold fX11_halt at h
  have pc1 : ∀  (σ : Sg) (hσ : wfS yC σ), fX11_halt_P14 x1 σ = some q → J x yC g 3 14 [(0, .ref (gad g 0)), (1, vi x1)] [] σ := by
    intro  σ hσ h
    unfold fX11_halt_P14 at h
    refine J_aload_n C 0 dX11_halt_14 rfl 0 rfl ?_
    refine J_getR C fl_RX11_60 oC_0 rfl dX11_halt_15 ?_
    refine J_getI C fl_RX11_288 oC_48 rfl dX11_halt_18 ?_
    refine J_istore_n (lo2 := [(2, vi (σ 48 9)), (0, .ref (gad g 0)), (1, vi x1)]) C 2 dX11_halt_21 rfl (by decide) rfl ?_
    refine J_aload_n C 0 dX11_halt_22 rfl 1 rfl ?_
    refine J_getR C fl_RX11_60 oC_0 rfl dX11_halt_23 ?_
    refine J_iload_n C 1 dX11_halt_26 rfl 2 rfl ?_
    refine J_putI C fl_RX11_288 fp_RX7_9 oC_48 rfl rfl lC_48 hσ h1 dX11_halt_27 h (fun σ2 hσ3 h => ?_)
    refine J_iload_n C 2 dX11_halt_30 rfl 0 rfl ?_
    have e9 := sE h
    subst e9
    exact J_iret C E ⟨(hσ 48 9 lC_48), hσ3⟩ dX11_halt_31
  refine J_iload_n C 1 dX11_halt_0 rfl 1 rfl ?_
  refine J_iconst C dX11_halt_1 ?_
  refine J_icmp_eq C h1 rl_m1 (tgt := 14) dX11_halt_2 (by decide) h (fun h c9 => ?_) (fun h c9 => ?_)
  · exact J_sub [0, 1] rfl (pc1 σ hσ h)
  · refine J_iload_n C 1 dX11_halt_5 rfl 1 rfl ?_
    obtain ⟨q6, cq6, h⟩ := bdS h
    refine J_callS C mw_X11_isTick ml_RX11_266 (m_X11_isTick x.2.1 g (CxI C) x1 h1 σ hσ q6 cq6) (Nat.le_of_ble_eq_true rfl) (Nat.le_of_ble_eq_true rfl) rfl rfl (Nat.le_of_ble_eq_true rfl) dX11_halt_6 (fun hz7 => ?_)
    refine J_if_ne C (rg01 hz7) (tgt := 14) dX11_halt_9 (by decide) h (fun h c8 => ?_) (fun h c8 => ?_)
    · refine J_iconst C dX11_halt_12 ?_
      have e9 := sE h
      subst e9
      exact J_iret C E ⟨rl_m1, hσ⟩ dX11_halt_13
    · exact J_sub [0, 1] rfl (pc1 σ hσ h)
set_option maxRecDepth 100000 in
set_option maxHeartbeats 4000000 in
theorem wX7_sortByFire_L34 {x : Ct} {g : Gm} (C : Cx x yC g 4 cX7_sortByFire RX7 3 64) : ∀ (n : Nat) (x1 : Int) (h1 : rg x1) (x2 : Int) (h2 : rg x2) (x3 : Int) (h3 : rg x3) (σ : Sg) (hσ : wfS yC σ) (q : Int × Sg) (h : fX7_sortByFire_L34 n x1 x2 x3 σ = some q) (k : rg q.1 → wfS yC q.2 → J x yC g 4 84 [(0, .ref (gad g 48)), (1, vi x1), (2, vi x2), (3, vi q.1)] [] q.2), J x yC g 4 34 [(0, .ref (gad g 48)), (1, vi x1), (2, vi x2), (3, vi x3)] [] σ := by
  intro n
  induction n with
  | zero =>
    intro x1 h1 x2 h2 x3 h3 σ hσ q h k
    exact absurd h (by intro z; cases z)
  | succ n ih =>
    intro x1 h1 x2 h2 x3 h3 σ hσ q h k
    rw [fX7_sortByFire_L34] at h
    refine J_iload_n C 3 dX7_sortByFire_34 rfl 3 rfl ?_
    refine J_if_le C h3 (tgt := 84) dX7_sortByFire_35 (by decide) h (fun h c22 => ?_) (fun h c22 => ?_)
    · have e9 := sE h
      subst e9
      exact J_sub [0, 1, 2, 3] rfl (k h3 hσ)
    · refine J_aload_n C 0 dX7_sortByFire_38 rfl 0 rfl ?_
      refine J_getR C fl_RX7_18 oC_48 rfl dX7_sortByFire_39 ?_
      refine J_iload_n C 3 dX7_sortByFire_42 rfl 3 rfl ?_
      refine J_iconst C dX7_sortByFire_43 ?_
      refine J_isub C dX7_sortByFire_44 h (fun v3 hv4 h => ?_)
      refine J_iald C aC_51 hσ dX7_sortByFire_45 h (fun v5 hv6 h => ?_)
      refine J_iload_n C 2 dX7_sortByFire_46 rfl 2 rfl ?_
      refine J_icmp_le C hv6 h2 (tgt := 84) dX7_sortByFire_47 (by decide) h (fun h c21 => ?_) (fun h c21 => ?_)
      · have e9 := sE h
        subst e9
        exact J_sub [0, 1, 2, 3] rfl (k h3 hσ)
      · refine J_aload_n C 0 dX7_sortByFire_50 rfl 0 rfl ?_
        refine J_getR C fl_RX7_18 oC_48 rfl dX7_sortByFire_51 ?_
        refine J_iload_n C 3 dX7_sortByFire_54 rfl 3 rfl ?_
        refine J_aload_n C 0 dX7_sortByFire_55 rfl 0 rfl ?_
        refine J_getR C fl_RX7_18 oC_48 rfl dX7_sortByFire_56 ?_
        refine J_iload_n C 3 dX7_sortByFire_59 rfl 3 rfl ?_
        refine J_iconst C dX7_sortByFire_60 ?_
        refine J_isub C dX7_sortByFire_61 h (fun v7 hv8 h => ?_)
        refine J_iald C aC_51 hσ dX7_sortByFire_62 h (fun v9 hv10 h => ?_)
        refine J_iast C aC_51 hσ hv10 dX7_sortByFire_63 h (fun σ11 hσ12 h => ?_)
        refine J_aload_n C 0 dX7_sortByFire_64 rfl 0 rfl ?_
        refine J_getR C fl_RX7_15 oC_48 rfl dX7_sortByFire_65 ?_
        refine J_iload_n C 3 dX7_sortByFire_68 rfl 3 rfl ?_
        refine J_aload_n C 0 dX7_sortByFire_69 rfl 0 rfl ?_
        refine J_getR C fl_RX7_15 oC_48 rfl dX7_sortByFire_70 ?_
        refine J_iload_n C 3 dX7_sortByFire_73 rfl 3 rfl ?_
        refine J_iconst C dX7_sortByFire_74 ?_
        refine J_isub C dX7_sortByFire_75 h (fun v13 hv14 h => ?_)
        refine J_iald C aC_50 hσ12 dX7_sortByFire_76 h (fun v15 hv16 h => ?_)
        refine J_iast C aC_50 hσ12 hv16 dX7_sortByFire_77 h (fun σ17 hσ18 h => ?_)
        refine J_iinc C 3 3 dX7_sortByFire_78 rfl (by decide) h (fun v19 hv20 h => ?_)
        refine J_goto C (tgt := 34) dX7_sortByFire_81 (by decide) ?_
        exact J_sub [1, 2, 3, 0] rfl (ih x1 h1 x2 h2 v19 hv20 σ17 hσ18 q h k)
set_option maxRecDepth 100000 in
set_option maxHeartbeats 4000000 in
theorem wX7_sortByFire_L2 {x : Ct} {g : Gm} (C : Cx x yC g 4 cX7_sortByFire RX7 3 64) : ∀ (n : Nat) (x1 : Int) (h1 : rg x1) (σ : Sg) (hσ : wfS yC σ) (q : Sg) (h : fX7_sortByFire_L2 n x1 σ = some q) (k : wfS yC q → J x yC g 4 104 [] [] q), J x yC g 4 2 [(0, .ref (gad g 48)), (1, vi x1)] [] σ := by
  intro n
  induction n with
  | zero =>
    intro x1 h1 σ hσ q h k
    exact absurd h (by intro z; cases z)
  | succ n ih =>
    intro x1 h1 σ hσ q h k
    rw [fX7_sortByFire_L2] at h
    refine J_iload_n C 1 dX7_sortByFire_2 rfl 1 rfl ?_
    refine J_aload_n C 0 dX7_sortByFire_3 rfl 0 rfl ?_
    refine J_getR C fl_RX7_35 oC_48 rfl dX7_sortByFire_4 ?_
    refine J_getI C fl_RX7_69 cues_19.1 rfl dX7_sortByFire_7 ?_
    refine J_icmp_ge C h1 (hσ 19 4 cues_19.2.1) (tgt := 104) dX7_sortByFire_10 (by decide) h (fun h c33 => ?_) (fun h c33 => ?_)
    · refine J_iload_n C 1 dX7_sortByFire_13 rfl 1 rfl ?_
      refine J_bipush C dX7_sortByFire_14 (bp8 (by decide) (by decide)) ?_
      refine J_icmp_ge C h1 rl_120 (tgt := 104) dX7_sortByFire_16 (by decide) h (fun h c32 => ?_) (fun h c32 => ?_)
      · refine J_aload_n C 0 dX7_sortByFire_19 rfl 0 rfl ?_
        refine J_getR C fl_RX7_31 oC_48 rfl dX7_sortByFire_20 ?_
        refine J_aload_n C 0 dX7_sortByFire_23 rfl 0 rfl ?_
        refine J_getR C fl_RX7_35 oC_48 rfl dX7_sortByFire_24 ?_
        refine J_iload_n C 1 dX7_sortByFire_27 rfl 1 rfl ?_
        obtain ⟨q1, cq1, h⟩ := bdS h
        refine J_callV C mw_X8_fireOf ml_RX7_80 (m_X8_fireOf x.2.1 g (CxI C) 19 cues_19 x1 h1 σ hσ q1 cq1) oC_1 rfl (Nat.le_of_ble_eq_true rfl) (Nat.le_of_ble_eq_true rfl) rfl rfl (Nat.le_of_ble_eq_true rfl) dX7_sortByFire_28 (fun hz2 => ?_)
        refine J_istore_n (lo2 := [(2, vi q1), (0, .ref (gad g 48)), (1, vi x1)]) C 2 dX7_sortByFire_31 rfl (by decide) rfl ?_
        refine J_iload_n C 1 dX7_sortByFire_32 rfl 2 rfl ?_
        refine J_istore_n (lo2 := [(3, vi x1), (2, vi q1), (0, .ref (gad g 48)), (1, vi x1)]) C 3 dX7_sortByFire_33 rfl (by decide) rfl ?_
        obtain ⟨q23, cq23, h⟩ := bdS h
        refine J_sub [2, 3, 1, 0] rfl (wX7_sortByFire_L34 C fu x1 h1 q1 hz2 x1 h1 σ hσ q23 cq23 (fun hr24 hσ25 => ?_))
        refine J_aload_n C 0 dX7_sortByFire_84 rfl 0 rfl ?_
        refine J_getR C fl_RX7_18 oC_48 rfl dX7_sortByFire_85 ?_
        refine J_iload_n C 3 dX7_sortByFire_88 rfl 3 rfl ?_
        refine J_iload_n C 2 dX7_sortByFire_89 rfl 2 rfl ?_
        refine J_iast C aC_51 hσ25 hz2 dX7_sortByFire_90 h (fun σ26 hσ27 h => ?_)
        refine J_aload_n C 0 dX7_sortByFire_91 rfl 0 rfl ?_
        refine J_getR C fl_RX7_15 oC_48 rfl dX7_sortByFire_92 ?_
        refine J_iload_n C 3 dX7_sortByFire_95 rfl 3 rfl ?_
        refine J_iload_n C 1 dX7_sortByFire_96 rfl 1 rfl ?_
        refine J_iast C aC_50 hσ27 h1 dX7_sortByFire_97 h (fun σ28 hσ29 h => ?_)
        refine J_iinc C 1 1 dX7_sortByFire_98 rfl (by decide) h (fun v30 hv31 h => ?_)
        refine J_goto C (tgt := 2) dX7_sortByFire_101 (by decide) ?_
        exact J_sub [1, 0] rfl (ih v30 hv31 σ28 hσ29 q h k)
      · have e9 := sE h
        subst e9
        exact J_sub [] rfl (k hσ)
    · have e9 := sE h
      subst e9
      exact J_sub [] rfl (k hσ)
set_option maxRecDepth 100000 in
set_option maxHeartbeats 4000000 in
theorem m_X7_sortByFire (l : Launch) (g : Gm) (hg : gInj yC g)  (σ : Sg) (hσ : wfS yC σ) (q : Sg) (h : fX7_sortByFire  σ = some q) : CJ l yC g yX7_sortByFire cX7_sortByFire 4 none 3 64 [.ref (gad g 48)] σ none q (wfS yC q) := by
  refine CJ_of hg (by decide) rfl (Nat.le_of_ble_eq_true rfl) (lo := [(0, .ref (gad g 48))]) rfl (fun x C E => ?_)
  unfold fX7_sortByFire at h
  refine J_iconst C dX7_sortByFire_0 ?_
  refine J_istore_n (lo2 := [(1, vi 0), (0, .ref (gad g 48))]) C 1 dX7_sortByFire_1 rfl (by decide) rfl ?_
  obtain ⟨q34, cq34, h⟩ := bdS h
  refine J_sub [1, 0] rfl (wX7_sortByFire_L2 C fu 0 rl_0 σ hσ q34 cq34 (fun hσ35 => ?_))
  have e9 := sE h
  subst e9
  exact J_vret C E hσ35 dX7_sortByFire_104
set_option maxRecDepth 100000 in
set_option maxHeartbeats 4000000 in
theorem m_X7_fateOf (l : Launch) (g : Gm) (hg : gInj yC g) (x1 : Int) (h1 : rg x1) (σ : Sg) (hσ : wfS yC σ) (q : Int) (h : fX7_fateOf x1 σ = some q) : CJ l yC g yX7_fateOf cX7_fateOf 2 (some .int) 0 0 [.ref (gad g 48), vi x1] σ (some (vi q)) σ (rg q) := by
  refine CJ_of hg (by decide) rfl (Nat.le_of_ble_eq_true rfl) (lo := [(0, .ref (gad g 48)), (1, vi x1)]) rfl (fun x C E => ?_)
  unfold fX7_fateOf at h
  refine J_iload_n C 1 dX7_fateOf_0 rfl 1 rfl ?_
  refine J_if_lt C h1 (tgt := 19) dX7_fateOf_1 (by decide) h (fun h c4 => ?_) (fun h c4 => ?_)
  · refine J_bipush C dX7_fateOf_19 (bp8 (by decide) (by decide)) ?_
    have e9 := sE h
    subst e9
    exact J_iret C E rl_6 dX7_fateOf_21
  · refine J_iload_n C 1 dX7_fateOf_4 rfl 1 rfl ?_
    refine J_bipush C dX7_fateOf_5 (bp8 (by decide) (by decide)) ?_
    refine J_icmp_ge C h1 rl_120 (tgt := 19) dX7_fateOf_7 (by decide) h (fun h c3 => ?_) (fun h c3 => ?_)
    · refine J_aload_n C 0 dX7_fateOf_10 rfl 0 rfl ?_
      refine J_getR C fl_RX7_21 oC_48 rfl dX7_fateOf_11 ?_
      refine J_iload_n C 1 dX7_fateOf_14 rfl 1 rfl ?_
      refine J_iald C aC_52 hσ dX7_fateOf_15 h (fun v1 hv2 h => ?_)
      refine J_goto C (tgt := 21) dX7_fateOf_16 (by decide) ?_
      have e9 := sE h
      subst e9
      exact J_iret C E hv2 dX7_fateOf_21
    · refine J_bipush C dX7_fateOf_19 (bp8 (by decide) (by decide)) ?_
      have e9 := sE h
      subst e9
      exact J_iret C E rl_6 dX7_fateOf_21
set_option maxRecDepth 100000 in
set_option maxHeartbeats 4000000 in
theorem wX7_misfiresSeen_L5 {x : Ct} {g : Gm} (C : Cx x yC g 6 cX7_misfiresSeen RX7 2 42) : ∀ (n : Nat) (x1 : Int) (h1 : rg x1) (x2 : Int) (h2 : rg x2) (x3 : Int) (h3 : rg x3) (x4 : Int) (h4 : rg x4) (σ : Sg) (hσ : wfS yC σ) (q : Int) (h : fX7_misfiresSeen_L5 n x1 x2 x3 x4 σ = some q) (k : rg q → J x yC g 6 59 [(3, vi q)] [] σ), J x yC g 6 5 [(0, .ref (gad g 48)), (1, vi x1), (2, vi x2), (3, vi x3), (4, vi x4)] [] σ := by
  intro n
  induction n with
  | zero =>
    intro x1 h1 x2 h2 x3 h3 x4 h4 σ hσ q h k
    exact absurd h (by intro z; cases z)
  | succ n ih =>
    intro x1 h1 x2 h2 x3 h3 x4 h4 σ hσ q h k
    rw [fX7_misfiresSeen_L5] at h
    have pc5 : ∀ (x3 : Int) (h3 : rg x3) (x4 : Int) (h4 : rg x4), fX7_misfiresSeen_L5P53 (fX7_misfiresSeen_L5 n) x1 x2 x3 x4 σ = some q → J x yC g 6 53 [(0, .ref (gad g 48)), (1, vi x1), (2, vi x2), (3, vi x3), (4, vi x4)] [] σ := by
      intro x3 h3 x4 h4 h
      unfold fX7_misfiresSeen_L5P53 at h
      refine J_iinc C 4 4 dX7_misfiresSeen_53 rfl (by decide) h (fun v6 hv7 h => ?_)
      refine J_goto C (tgt := 5) dX7_misfiresSeen_56 (by decide) ?_
      exact J_sub [1, 2, 3, 4, 0] rfl (ih x1 h1 x2 h2 x3 h3 v6 hv7 σ hσ q h k)
    refine J_iload C 4 dX7_misfiresSeen_5 4 rfl ?_
    refine J_iload_n C 1 dX7_misfiresSeen_7 rfl 1 rfl ?_
    refine J_icmp_ge C h4 h1 (tgt := 59) dX7_misfiresSeen_8 (by decide) h (fun h c17 => ?_) (fun h c17 => ?_)
    · refine J_iload C 4 dX7_misfiresSeen_11 4 rfl ?_
      refine J_bipush C dX7_misfiresSeen_13 (bp8 (by decide) (by decide)) ?_
      refine J_icmp_ge C h4 rl_120 (tgt := 59) dX7_misfiresSeen_15 (by decide) h (fun h c16 => ?_) (fun h c16 => ?_)
      · refine J_aload_n C 0 dX7_misfiresSeen_18 rfl 0 rfl ?_
        refine J_getR C fl_RX7_15 oC_48 rfl dX7_misfiresSeen_19 ?_
        refine J_iload C 4 dX7_misfiresSeen_22 4 rfl ?_
        refine J_iald C aC_50 hσ dX7_misfiresSeen_24 h (fun v1 hv2 h => ?_)
        refine J_istore (lo2 := [(5, vi v1), (0, .ref (gad g 48)), (1, vi x1), (2, vi x2), (3, vi x3), (4, vi x4)]) C 5 dX7_misfiresSeen_25 (by decide) rfl ?_
        refine J_aload_n C 0 dX7_misfiresSeen_27 rfl 1 rfl ?_
        refine J_iload C 5 dX7_misfiresSeen_28 0 rfl ?_
        obtain ⟨q3, cq3, h⟩ := bdS h
        refine J_callV C mw_X7_fateOf ml_RX7_56 (m_X7_fateOf x.2.1 g (CxI C) v1 hv2 σ hσ q3 cq3) oC_48 rfl (Nat.le_of_ble_eq_true rfl) (Nat.le_of_ble_eq_true rfl) rfl rfl (Nat.le_of_ble_eq_true rfl) dX7_misfiresSeen_30 (fun hz4 => ?_)
        refine J_iconst C dX7_misfiresSeen_33 ?_
        refine J_icmp_ne C hz4 rl_5 (tgt := 53) dX7_misfiresSeen_34 (by decide) h (fun h c15 => ?_) (fun h c15 => ?_)
        · refine J_aload_n C 0 dX7_misfiresSeen_37 rfl 1 rfl ?_
          refine J_getR C fl_RX7_35 oC_48 rfl dX7_misfiresSeen_38 ?_
          refine J_iload C 5 dX7_misfiresSeen_41 0 rfl ?_
          obtain ⟨q10, cq10, h⟩ := bdS h
          refine J_callV C mw_X1_burstOf ml_RX7_86 (m_X1_burstOf x.2.1 g (CxI C) 19 cues_19 v1 hv2 σ hσ q10 cq10) cues_19.1 rfl (Nat.le_of_ble_eq_true rfl) (Nat.le_of_ble_eq_true rfl) rfl rfl (Nat.le_of_ble_eq_true rfl) dX7_misfiresSeen_43 (fun hz11 => ?_)
          refine J_iload_n C 2 dX7_misfiresSeen_46 rfl 3 rfl ?_
          refine J_icmp_gt C hz11 h2 (tgt := 53) dX7_misfiresSeen_47 (by decide) h (fun h c14 => ?_) (fun h c14 => ?_)
          · refine J_iinc C 3 4 dX7_misfiresSeen_50 rfl (by decide) h (fun v12 hv13 h => ?_)
            exact J_sub [2, 3, 4, 0, 5] rfl (pc5 v12 hv13 x4 h4 h)
          · exact J_sub [1, 2, 3, 4, 5] rfl (pc5 x3 h3 x4 h4 h)
        · exact J_sub [1, 2, 3, 4, 5] rfl (pc5 x3 h3 x4 h4 h)
      · have e9 := sE h
        subst e9
        exact J_sub [3] rfl (k h3)
    · have e9 := sE h
      subst e9
      exact J_sub [3] rfl (k h3)
set_option maxRecDepth 100000 in
set_option maxHeartbeats 4000000 in
theorem m_X7_misfiresSeen (l : Launch) (g : Gm) (hg : gInj yC g) (x1 : Int) (h1 : rg x1) (x2 : Int) (h2 : rg x2) (σ : Sg) (hσ : wfS yC σ) (q : Int) (h : fX7_misfiresSeen x1 x2 σ = some q) : CJ l yC g yX7_misfiresSeen cX7_misfiresSeen 6 (some .int) 2 42 [.ref (gad g 48), vi x1, vi x2] σ (some (vi q)) σ (rg q) := by
  refine CJ_of hg (by decide) rfl (Nat.le_of_ble_eq_true rfl) (lo := [(0, .ref (gad g 48)), (1, vi x1), (2, vi x2)]) rfl (fun x C E => ?_)
  unfold fX7_misfiresSeen at h
  refine J_iconst C dX7_misfiresSeen_0 ?_
  refine J_istore_n (lo2 := [(3, vi 0), (0, .ref (gad g 48)), (1, vi x1), (2, vi x2)]) C 3 dX7_misfiresSeen_1 rfl (by decide) rfl ?_
  refine J_iconst C dX7_misfiresSeen_2 ?_
  refine J_istore (lo2 := [(4, vi 0), (3, vi 0), (0, .ref (gad g 48)), (1, vi x1), (2, vi x2)]) C 4 dX7_misfiresSeen_3 (by decide) rfl ?_
  obtain ⟨q18, cq18, h⟩ := bdS h
  refine J_sub [2, 3, 4, 1, 0] rfl (wX7_misfiresSeen_L5 C fu x1 h1 x2 h2 0 rl_0 0 rl_0 σ hσ q18 cq18 (fun hr19 => ?_))
  refine J_iload_n C 3 dX7_misfiresSeen_59 rfl 0 rfl ?_
  have e9 := sE h
  subst e9
  exact J_iret C E hr19 dX7_misfiresSeen_60
set_option maxRecDepth 100000 in
set_option maxHeartbeats 4000000 in
theorem m_X5_pushed (l : Launch) (g : Gm) (hg : gInj yC g) (x0 : Int) (h0 : rg x0) (x1 : Int) (h1 : rg x1) (σ : Sg) (hσ : wfS yC σ) (q : Int) (h : fX5_pushed x0 x1 σ = some q) : CJ l yC g yX5_pushed cX5_pushed 2 (some .int) 0 0 [vi x0, vi x1] σ (some (vi q)) σ (rg q) := by
  refine CJ_of hg (by decide) rfl (Nat.le_of_ble_eq_true rfl) (lo := [(0, vi x0), (1, vi x1)]) rfl (fun x C E => ?_)
  unfold fX5_pushed at h
  refine J_iload_n C 0 dX5_pushed_0 rfl 0 rfl ?_
  refine J_iconst C dX5_pushed_1 ?_
  refine J_ishl C dX5_pushed_2 ?_
  refine J_iload_n C 1 dX5_pushed_3 rfl 1 rfl ?_
  refine J_if_eq C h1 (tgt := 11) dX5_pushed_4 (by decide) h (fun h c1 => ?_) (fun h c1 => ?_)
  · refine J_iconst C dX5_pushed_11 ?_
    refine J_ior C dX5_pushed_12 ?_
    have e9 := sE h
    subst e9
    exact J_iret C E (rg_toInt _) dX5_pushed_13
  · refine J_iconst C dX5_pushed_7 ?_
    refine J_goto C (tgt := 12) dX5_pushed_8 (by decide) ?_
    refine J_ior C dX5_pushed_12 ?_
    have e9 := sE h
    subst e9
    exact J_iret C E (rg_toInt _) dX5_pushed_13
set_option maxRecDepth 100000 in
set_option maxHeartbeats 4000000 in
theorem wX5_doesHold_L18 {x : Ct} {g : Gm} (C : Cx x yC g 10 cX5_doesHold RX5 2 42) : ∀ (n : Nat) (x1 : Int) (h1 : rg x1) (x2 : Nat) (h2 : isCues x2) (x3 : Int) (h3 : rg x3) (x4 : Int) (h4 : rg x4) (x5 : Int) (h5 : rg x5) (x6 : Int) (h6 : rg x6) (x7 : Int) (h7 : rg x7) (x8 : Int) (h8 : rg x8) (σ : Sg) (hσ : wfS yC σ) (q : Int) (h : fX5_doesHold_L18 n x1 x2 x3 x4 x5 x6 x7 x8 σ = some q) (k : rg q → J x yC g 10 284 [(7, vi q)] [] σ), J x yC g 10 18 [(0, .ref (gad g 44)), (1, vi x1), (2, .ref (gad g x2)), (3, vi x3), (4, vi x4), (5, vi x5), (6, vi x6), (7, vi x7), (8, vi x8)] [] σ := by
  intro n
  induction n with
  | zero =>
    intro x1 h1 x2 h2 x3 h3 x4 h4 x5 h5 x6 h6 x7 h7 x8 h8 σ hσ q h k
    exact absurd h (by intro z; cases z)
  | succ n ih =>
    intro x1 h1 x2 h2 x3 h3 x4 h4 x5 h5 x6 h6 x7 h7 x8 h8 σ hσ q h k
    rw [fX5_doesHold_L18] at h
    have pc15 : ∀ (x7 : Int) (h7 : rg x7) (x8 : Int) (h8 : rg x8), fX5_doesHold_L18P278 (fX5_doesHold_L18 n) x1 x2 x3 x4 x5 x6 x7 x8 σ = some q → J x yC g 10 278 [(0, .ref (gad g 44)), (1, vi x1), (2, .ref (gad g x2)), (3, vi x3), (4, vi x4), (5, vi x5), (6, vi x6), (7, vi x7), (8, vi x8)] [] σ := by
      intro x7 h7 x8 h8 h
      unfold fX5_doesHold_L18P278 at h
      refine J_iinc C 8 8 dX5_doesHold_278 rfl (by decide) h (fun v16 hv17 h => ?_)
      refine J_goto C (tgt := 18) dX5_doesHold_281 (by decide) ?_
      exact J_sub [1, 2, 3, 4, 5, 6, 7, 8, 0] rfl (ih x1 h1 x2 h2 x3 h3 x4 h4 x5 h5 x6 h6 x7 h7 v16 hv17 σ hσ q h k)
    have pc27 : ∀ (x8 : Int) (h8 : rg x8) (y0 : Int) (g0 : rg y0) (y1 : Int) (g1 : rg y1), fX5_doesHold_L18P264 (fX5_doesHold_L18 n) x1 x2 x3 x4 x5 x6 x8 y0 y1 σ = some q → J x yC g 10 264 [(0, .ref (gad g 44)), (1, vi x1), (2, .ref (gad g x2)), (3, vi x3), (4, vi x4), (5, vi x5), (6, vi x6), (8, vi x8)] [vi y0, vi y1] σ := by
      intro x8 h8 y0 g0 y1 g1 h
      unfold fX5_doesHold_L18P264 at h
      obtain ⟨q28, cq28, h⟩ := bdS h
      refine J_callS C mw_X5_pushed ml_RX5_44 (m_X5_pushed x.2.1 g (CxI C) y1 g1 y0 g0 σ hσ q28 cq28) (Nat.le_of_ble_eq_true rfl) (Nat.le_of_ble_eq_true rfl) rfl rfl (Nat.le_of_ble_eq_true rfl) dX5_doesHold_264 (fun hz29 => ?_)
      refine J_istore (lo2 := [(7, vi q28), (0, .ref (gad g 44)), (1, vi x1), (2, .ref (gad g x2)), (3, vi x3), (4, vi x4), (5, vi x5), (6, vi x6), (8, vi x8)]) C 7 dX5_doesHold_267 (by decide) rfl ?_
      refine J_goto C (tgt := 278) dX5_doesHold_269 (by decide) ?_
      exact J_sub [1, 2, 3, 4, 5, 6, 7, 0, 8] rfl (pc15 q28 hz29 x8 h8 h)
    have pc33 : ∀ (x8 : Int) (h8 : rg x8) (y0 : Int) (g0 : rg y0) (y1 : Int) (g1 : rg y1), fX5_doesHold_L18P240 (fX5_doesHold_L18 n) x1 x2 x3 x4 x5 x6 x8 y0 y1 σ = some q → J x yC g 10 240 [(0, .ref (gad g 44)), (1, vi x1), (2, .ref (gad g x2)), (3, vi x3), (4, vi x4), (5, vi x5), (6, vi x6), (8, vi x8)] [vi y0, vi y1] σ := by
      intro x8 h8 y0 g0 y1 g1 h
      unfold fX5_doesHold_L18P240 at h
      obtain ⟨q34, cq34, h⟩ := bdS h
      refine J_callS C mw_X5_pushed ml_RX5_44 (m_X5_pushed x.2.1 g (CxI C) y1 g1 y0 g0 σ hσ q34 cq34) (Nat.le_of_ble_eq_true rfl) (Nat.le_of_ble_eq_true rfl) rfl rfl (Nat.le_of_ble_eq_true rfl) dX5_doesHold_240 (fun hz35 => ?_)
      refine J_istore (lo2 := [(7, vi q34), (0, .ref (gad g 44)), (1, vi x1), (2, .ref (gad g x2)), (3, vi x3), (4, vi x4), (5, vi x5), (6, vi x6), (8, vi x8)]) C 7 dX5_doesHold_243 (by decide) rfl ?_
      refine J_goto C (tgt := 278) dX5_doesHold_245 (by decide) ?_
      exact J_sub [1, 2, 3, 4, 5, 6, 7, 0, 8] rfl (pc15 q34 hz35 x8 h8 h)
    have pc41 : ∀ (x8 : Int) (h8 : rg x8) (y0 : Int) (g0 : rg y0) (y1 : Int) (g1 : rg y1), fX5_doesHold_L18P215 (fX5_doesHold_L18 n) x1 x2 x3 x4 x5 x6 x8 y0 y1 σ = some q → J x yC g 10 215 [(0, .ref (gad g 44)), (1, vi x1), (2, .ref (gad g x2)), (3, vi x3), (4, vi x4), (5, vi x5), (6, vi x6), (8, vi x8)] [vi y0, vi y1] σ := by
      intro x8 h8 y0 g0 y1 g1 h
      unfold fX5_doesHold_L18P215 at h
      obtain ⟨q42, cq42, h⟩ := bdS h
      refine J_callS C mw_X5_pushed ml_RX5_44 (m_X5_pushed x.2.1 g (CxI C) y1 g1 y0 g0 σ hσ q42 cq42) (Nat.le_of_ble_eq_true rfl) (Nat.le_of_ble_eq_true rfl) rfl rfl (Nat.le_of_ble_eq_true rfl) dX5_doesHold_215 (fun hz43 => ?_)
      refine J_istore (lo2 := [(7, vi q42), (0, .ref (gad g 44)), (1, vi x1), (2, .ref (gad g x2)), (3, vi x3), (4, vi x4), (5, vi x5), (6, vi x6), (8, vi x8)]) C 7 dX5_doesHold_218 (by decide) rfl ?_
      refine J_goto C (tgt := 278) dX5_doesHold_220 (by decide) ?_
      exact J_sub [1, 2, 3, 4, 5, 6, 7, 0, 8] rfl (pc15 q42 hz43 x8 h8 h)
    have pc49 : ∀ (x8 : Int) (h8 : rg x8) (y0 : Int) (g0 : rg y0) (y1 : Int) (g1 : rg y1), fX5_doesHold_L18P190 (fX5_doesHold_L18 n) x1 x2 x3 x4 x5 x6 x8 y0 y1 σ = some q → J x yC g 10 190 [(0, .ref (gad g 44)), (1, vi x1), (2, .ref (gad g x2)), (3, vi x3), (4, vi x4), (5, vi x5), (6, vi x6), (8, vi x8)] [vi y0, vi y1] σ := by
      intro x8 h8 y0 g0 y1 g1 h
      unfold fX5_doesHold_L18P190 at h
      obtain ⟨q50, cq50, h⟩ := bdS h
      refine J_callS C mw_X5_pushed ml_RX5_44 (m_X5_pushed x.2.1 g (CxI C) y1 g1 y0 g0 σ hσ q50 cq50) (Nat.le_of_ble_eq_true rfl) (Nat.le_of_ble_eq_true rfl) rfl rfl (Nat.le_of_ble_eq_true rfl) dX5_doesHold_190 (fun hz51 => ?_)
      refine J_istore (lo2 := [(7, vi q50), (0, .ref (gad g 44)), (1, vi x1), (2, .ref (gad g x2)), (3, vi x3), (4, vi x4), (5, vi x5), (6, vi x6), (8, vi x8)]) C 7 dX5_doesHold_193 (by decide) rfl ?_
      refine J_goto C (tgt := 278) dX5_doesHold_195 (by decide) ?_
      exact J_sub [1, 2, 3, 4, 5, 6, 7, 0, 8] rfl (pc15 q50 hz51 x8 h8 h)
    have pc55 : ∀ (x8 : Int) (h8 : rg x8) (y0 : Int) (g0 : rg y0) (y1 : Int) (g1 : rg y1), fX5_doesHold_L18P165 (fX5_doesHold_L18 n) x1 x2 x3 x4 x5 x6 x8 y0 y1 σ = some q → J x yC g 10 165 [(0, .ref (gad g 44)), (1, vi x1), (2, .ref (gad g x2)), (3, vi x3), (4, vi x4), (5, vi x5), (6, vi x6), (8, vi x8)] [vi y0, vi y1] σ := by
      intro x8 h8 y0 g0 y1 g1 h
      unfold fX5_doesHold_L18P165 at h
      obtain ⟨q56, cq56, h⟩ := bdS h
      refine J_callS C mw_X5_pushed ml_RX5_44 (m_X5_pushed x.2.1 g (CxI C) y1 g1 y0 g0 σ hσ q56 cq56) (Nat.le_of_ble_eq_true rfl) (Nat.le_of_ble_eq_true rfl) rfl rfl (Nat.le_of_ble_eq_true rfl) dX5_doesHold_165 (fun hz57 => ?_)
      refine J_istore (lo2 := [(7, vi q56), (0, .ref (gad g 44)), (1, vi x1), (2, .ref (gad g x2)), (3, vi x3), (4, vi x4), (5, vi x5), (6, vi x6), (8, vi x8)]) C 7 dX5_doesHold_168 (by decide) rfl ?_
      refine J_goto C (tgt := 278) dX5_doesHold_170 (by decide) ?_
      exact J_sub [1, 2, 3, 4, 5, 6, 7, 0, 8] rfl (pc15 q56 hz57 x8 h8 h)
    have pc61 : ∀ (x8 : Int) (h8 : rg x8) (y0 : Int) (g0 : rg y0) (y1 : Int) (g1 : rg y1), fX5_doesHold_L18P143 (fX5_doesHold_L18 n) x1 x2 x3 x4 x5 x6 x8 y0 y1 σ = some q → J x yC g 10 143 [(0, .ref (gad g 44)), (1, vi x1), (2, .ref (gad g x2)), (3, vi x3), (4, vi x4), (5, vi x5), (6, vi x6), (8, vi x8)] [vi y0, vi y1] σ := by
      intro x8 h8 y0 g0 y1 g1 h
      unfold fX5_doesHold_L18P143 at h
      obtain ⟨q62, cq62, h⟩ := bdS h
      refine J_callS C mw_X5_pushed ml_RX5_44 (m_X5_pushed x.2.1 g (CxI C) y1 g1 y0 g0 σ hσ q62 cq62) (Nat.le_of_ble_eq_true rfl) (Nat.le_of_ble_eq_true rfl) rfl rfl (Nat.le_of_ble_eq_true rfl) dX5_doesHold_143 (fun hz63 => ?_)
      refine J_istore (lo2 := [(7, vi q62), (0, .ref (gad g 44)), (1, vi x1), (2, .ref (gad g x2)), (3, vi x3), (4, vi x4), (5, vi x5), (6, vi x6), (8, vi x8)]) C 7 dX5_doesHold_146 (by decide) rfl ?_
      refine J_goto C (tgt := 278) dX5_doesHold_148 (by decide) ?_
      exact J_sub [1, 2, 3, 4, 5, 6, 7, 0, 8] rfl (pc15 q62 hz63 x8 h8 h)
    have pc69 : ∀ (x8 : Int) (h8 : rg x8) (y0 : Int) (g0 : rg y0) (y1 : Int) (g1 : rg y1), fX5_doesHold_L18P121 (fX5_doesHold_L18 n) x1 x2 x3 x4 x5 x6 x8 y0 y1 σ = some q → J x yC g 10 121 [(0, .ref (gad g 44)), (1, vi x1), (2, .ref (gad g x2)), (3, vi x3), (4, vi x4), (5, vi x5), (6, vi x6), (8, vi x8)] [vi y0, vi y1] σ := by
      intro x8 h8 y0 g0 y1 g1 h
      unfold fX5_doesHold_L18P121 at h
      obtain ⟨q70, cq70, h⟩ := bdS h
      refine J_callS C mw_X5_pushed ml_RX5_44 (m_X5_pushed x.2.1 g (CxI C) y1 g1 y0 g0 σ hσ q70 cq70) (Nat.le_of_ble_eq_true rfl) (Nat.le_of_ble_eq_true rfl) rfl rfl (Nat.le_of_ble_eq_true rfl) dX5_doesHold_121 (fun hz71 => ?_)
      refine J_istore (lo2 := [(7, vi q70), (0, .ref (gad g 44)), (1, vi x1), (2, .ref (gad g x2)), (3, vi x3), (4, vi x4), (5, vi x5), (6, vi x6), (8, vi x8)]) C 7 dX5_doesHold_124 (by decide) rfl ?_
      refine J_goto C (tgt := 278) dX5_doesHold_126 (by decide) ?_
      exact J_sub [1, 2, 3, 4, 5, 6, 7, 0, 8] rfl (pc15 q70 hz71 x8 h8 h)
    refine J_iload C 8 dX5_doesHold_18 8 rfl ?_
    refine J_aload_n C 0 dX5_doesHold_20 rfl 0 rfl ?_
    refine J_getR C fl_RX5_18 oC_44 rfl dX5_doesHold_21 ?_
    refine J_iload_n C 1 dX5_doesHold_24 rfl 1 rfl ?_
    refine J_iald C aC_47 hσ dX5_doesHold_25 h (fun v1 hv2 h => ?_)
    refine J_icmp_ge C h8 hv2 (tgt := 284) dX5_doesHold_26 (by decide) h (fun h c76 => ?_) (fun h c76 => ?_)
    · refine J_iload C 8 dX5_doesHold_29 8 rfl ?_
      refine J_bipush C dX5_doesHold_31 (bp8 (by decide) (by decide)) ?_
      refine J_icmp_ge C h8 rl_20 (tgt := 284) dX5_doesHold_33 (by decide) h (fun h c75 => ?_) (fun h c75 => ?_)
      · refine J_aload_n C 0 dX5_doesHold_36 rfl 0 rfl ?_
        refine J_getR C fl_RX5_15 oC_44 rfl dX5_doesHold_37 ?_
        refine J_iload_n C 1 dX5_doesHold_40 rfl 1 rfl ?_
        refine J_bipush C dX5_doesHold_41 (bp8 (by decide) (by decide)) ?_
        refine J_imul C dX5_doesHold_43 h (fun v3 hv4 h => ?_)
        refine J_iload C 8 dX5_doesHold_44 8 rfl ?_
        refine J_iadd C dX5_doesHold_46 h (fun v5 hv6 h => ?_)
        refine J_iald C aC_46 hσ dX5_doesHold_47 h (fun v7 hv8 h => ?_)
        refine J_istore (lo2 := [(9, vi v7), (0, .ref (gad g 44)), (1, vi x1), (2, .ref (gad g x2)), (3, vi x3), (4, vi x4), (5, vi x5), (6, vi x6), (7, vi x7), (8, vi x8)]) C 9 dX5_doesHold_48 (by decide) rfl ?_
        refine J_aload_n C 0 dX5_doesHold_50 rfl 1 rfl ?_
        refine J_getR C fl_RX5_9 oC_44 rfl dX5_doesHold_51 ?_
        refine J_iload_n C 1 dX5_doesHold_54 rfl 2 rfl ?_
        refine J_bipush C dX5_doesHold_55 (bp8 (by decide) (by decide)) ?_
        refine J_imul C dX5_doesHold_57 h (fun v9 hv10 h => ?_)
        refine J_iload C 8 dX5_doesHold_58 9 rfl ?_
        refine J_iadd C dX5_doesHold_60 h (fun v11 hv12 h => ?_)
        refine J_iald C aC_45 hσ dX5_doesHold_61 h (fun v13 hv14 h => ?_)
        rcases lt_or h with ⟨c20, h⟩ | ⟨c20, h⟩
        · refine J_switch C (tgt := 104) hv14 dX5_doesHold_62 (42) (fun z => absurd z (by omega)) (fun _ _ => by rw [c20]; rfl) (by decide) ?_
          refine J_iload C 7 dX5_doesHold_104 8 rfl ?_
          refine J_iload C 4 dX5_doesHold_106 5 rfl ?_
          refine J_bipush C dX5_doesHold_108 (bp8 (by decide) (by decide)) ?_
          refine J_iload C 9 dX5_doesHold_110 0 rfl ?_
          refine J_imul C dX5_doesHold_112 h (fun v67 hv68 h => ?_)
          refine J_icmp_lt C h4 hv68 (tgt := 120) dX5_doesHold_113 (by decide) h (fun h c74 => ?_) (fun h c74 => ?_)
          · refine J_iconst C dX5_doesHold_120 ?_
            exact J_sub [1, 2, 3, 4, 5, 6, 7, 9] rfl (pc69 x8 h8 0 rl_0 x7 h7 h)
          · refine J_iconst C dX5_doesHold_116 ?_
            refine J_goto C (tgt := 121) dX5_doesHold_117 (by decide) ?_
            exact J_sub [1, 2, 3, 4, 5, 6, 7, 9] rfl (pc69 x8 h8 1 rl_1 x7 h7 h)
        · rcases lt_or h with ⟨c21, h⟩ | ⟨c21, h⟩
          · refine J_switch C (tgt := 129) hv14 dX5_doesHold_62 (67) (fun z => absurd z (by omega)) (fun _ _ => by rw [c21]; rfl) (by decide) ?_
            refine J_iload C 7 dX5_doesHold_129 8 rfl ?_
            refine J_iload C 6 dX5_doesHold_131 7 rfl ?_
            refine J_iload C 9 dX5_doesHold_133 0 rfl ?_
            refine J_icmp_lt C h6 hv8 (tgt := 142) dX5_doesHold_135 (by decide) h (fun h c66 => ?_) (fun h c66 => ?_)
            · refine J_iconst C dX5_doesHold_142 ?_
              exact J_sub [1, 2, 3, 4, 5, 6, 7, 9] rfl (pc61 x8 h8 0 rl_0 x7 h7 h)
            · refine J_iconst C dX5_doesHold_138 ?_
              refine J_goto C (tgt := 143) dX5_doesHold_139 (by decide) ?_
              exact J_sub [1, 2, 3, 4, 5, 6, 7, 9] rfl (pc61 x8 h8 1 rl_1 x7 h7 h)
          · rcases lt_or h with ⟨c22, h⟩ | ⟨c22, h⟩
            · refine J_switch C (tgt := 151) hv14 dX5_doesHold_62 (89) (fun z => absurd z (by omega)) (fun _ _ => by rw [c22]; rfl) (by decide) ?_
              refine J_iload C 7 dX5_doesHold_151 8 rfl ?_
              refine J_iload C 5 dX5_doesHold_153 6 rfl ?_
              refine J_iload C 9 dX5_doesHold_155 0 rfl ?_
              refine J_icmp_ne C h5 hv8 (tgt := 164) dX5_doesHold_157 (by decide) h (fun h c60 => ?_) (fun h c60 => ?_)
              · refine J_iconst C dX5_doesHold_160 ?_
                refine J_goto C (tgt := 165) dX5_doesHold_161 (by decide) ?_
                exact J_sub [1, 2, 3, 4, 5, 6, 7, 9] rfl (pc55 x8 h8 1 rl_1 x7 h7 h)
              · refine J_iconst C dX5_doesHold_164 ?_
                exact J_sub [1, 2, 3, 4, 5, 6, 7, 9] rfl (pc55 x8 h8 0 rl_0 x7 h7 h)
            · rcases lt_or h with ⟨c23, h⟩ | ⟨c23, h⟩
              · refine J_switch C (tgt := 173) hv14 dX5_doesHold_62 (111) (fun z => absurd z (by omega)) (fun _ _ => by rw [c23]; rfl) (by decide) ?_
                refine J_iload C 7 dX5_doesHold_173 8 rfl ?_
                refine J_aload_n C 2 dX5_doesHold_175 rfl 3 rfl ?_
                refine J_iload_n C 3 dX5_doesHold_176 rfl 4 rfl ?_
                obtain ⟨q47, cq47, h⟩ := bdS h
                refine J_callV C mw_X1_bargeOf ml_RX5_48 (m_X1_bargeOf x.2.1 g (CxI C) x2 h2 x3 h3 σ hσ q47 cq47) h2.1 rfl (Nat.le_of_ble_eq_true rfl) (Nat.le_of_ble_eq_true rfl) rfl rfl (Nat.le_of_ble_eq_true rfl) dX5_doesHold_177 (fun hz48 => ?_)
                refine J_iload C 9 dX5_doesHold_180 0 rfl ?_
                refine J_icmp_ne C hz48 hv8 (tgt := 189) dX5_doesHold_182 (by decide) h (fun h c54 => ?_) (fun h c54 => ?_)
                · refine J_iconst C dX5_doesHold_185 ?_
                  refine J_goto C (tgt := 190) dX5_doesHold_186 (by decide) ?_
                  exact J_sub [1, 2, 3, 4, 5, 6, 7, 9] rfl (pc49 x8 h8 1 rl_1 x7 h7 h)
                · refine J_iconst C dX5_doesHold_189 ?_
                  exact J_sub [1, 2, 3, 4, 5, 6, 7, 9] rfl (pc49 x8 h8 0 rl_0 x7 h7 h)
              · rcases lt_or h with ⟨c24, h⟩ | ⟨c24, h⟩
                · refine J_switch C (tgt := 198) hv14 dX5_doesHold_62 (136) (fun z => absurd z (by omega)) (fun _ _ => by rw [c24]; rfl) (by decide) ?_
                  refine J_iload C 7 dX5_doesHold_198 8 rfl ?_
                  refine J_aload_n C 2 dX5_doesHold_200 rfl 3 rfl ?_
                  refine J_iload_n C 3 dX5_doesHold_201 rfl 4 rfl ?_
                  obtain ⟨q39, cq39, h⟩ := bdS h
                  refine J_callV C mw_X1_kindOf ml_RX5_53 (m_X1_kindOf x.2.1 g (CxI C) x2 h2 x3 h3 σ hσ q39 cq39) h2.1 rfl (Nat.le_of_ble_eq_true rfl) (Nat.le_of_ble_eq_true rfl) rfl rfl (Nat.le_of_ble_eq_true rfl) dX5_doesHold_202 (fun hz40 => ?_)
                  refine J_iload C 9 dX5_doesHold_205 0 rfl ?_
                  refine J_icmp_ne C hz40 hv8 (tgt := 214) dX5_doesHold_207 (by decide) h (fun h c46 => ?_) (fun h c46 => ?_)
                  · refine J_iconst C dX5_doesHold_210 ?_
                    refine J_goto C (tgt := 215) dX5_doesHold_211 (by decide) ?_
                    exact J_sub [1, 2, 3, 4, 5, 6, 7, 9] rfl (pc41 x8 h8 1 rl_1 x7 h7 h)
                  · refine J_iconst C dX5_doesHold_214 ?_
                    exact J_sub [1, 2, 3, 4, 5, 6, 7, 9] rfl (pc41 x8 h8 0 rl_0 x7 h7 h)
                · rcases lt_or h with ⟨c25, h⟩ | ⟨c25, h⟩
                  · refine J_switch C (tgt := 223) hv14 dX5_doesHold_62 (161) (fun z => absurd z (by omega)) (fun _ _ => by rw [c25]; rfl) (by decide) ?_
                    refine J_iload C 7 dX5_doesHold_223 8 rfl ?_
                    refine J_iconst C dX5_doesHold_225 ?_
                    refine J_ishr C dX5_doesHold_226 ?_
                    refine J_iload C 7 dX5_doesHold_227 8 rfl ?_
                    refine J_iconst C dX5_doesHold_229 ?_
                    refine J_iand C dX5_doesHold_230 ?_
                    refine J_iconst C dX5_doesHold_231 ?_
                    refine J_icmp_ne C (rg_toInt _) rl_3 (tgt := 239) dX5_doesHold_232 (by decide) h (fun h c38 => ?_) (fun h c38 => ?_)
                    · refine J_iconst C dX5_doesHold_235 ?_
                      refine J_goto C (tgt := 240) dX5_doesHold_236 (by decide) ?_
                      exact J_sub [1, 2, 3, 4, 5, 6, 7, 9] rfl (pc33 x8 h8 1 rl_1 (bShr x7 2) (rg_toInt _) h)
                    · refine J_iconst C dX5_doesHold_239 ?_
                      exact J_sub [1, 2, 3, 4, 5, 6, 7, 9] rfl (pc33 x8 h8 0 rl_0 (bShr x7 2) (rg_toInt _) h)
                  · rcases lt_or h with ⟨c26, h⟩ | ⟨c26, h⟩
                    · refine J_switch C (tgt := 248) hv14 dX5_doesHold_62 (186) (fun z => absurd z (by omega)) (fun _ _ => by rw [c26]; rfl) (by decide) ?_
                      refine J_iload C 7 dX5_doesHold_248 8 rfl ?_
                      refine J_iconst C dX5_doesHold_250 ?_
                      refine J_ishr C dX5_doesHold_251 ?_
                      refine J_iload C 7 dX5_doesHold_252 8 rfl ?_
                      refine J_iconst C dX5_doesHold_254 ?_
                      refine J_iand C dX5_doesHold_255 ?_
                      refine J_if_eq C (rg_toInt _) (tgt := 263) dX5_doesHold_256 (by decide) h (fun h c32 => ?_) (fun h c32 => ?_)
                      · refine J_iconst C dX5_doesHold_263 ?_
                        exact J_sub [1, 2, 3, 4, 5, 6, 7, 9] rfl (pc27 x8 h8 0 rl_0 (bShr x7 2) (rg_toInt _) h)
                      · refine J_iconst C dX5_doesHold_259 ?_
                        refine J_goto C (tgt := 264) dX5_doesHold_260 (by decide) ?_
                        exact J_sub [1, 2, 3, 4, 5, 6, 7, 9] rfl (pc27 x8 h8 1 rl_1 (bShr x7 2) (rg_toInt _) h)
                    · refine J_switch C (tgt := 272) hv14 dX5_doesHold_62 (210) (fun _ => rfl) (fun z1 z2 => absurd z1 (by omega)) (by decide) ?_
                      refine J_iload C 7 dX5_doesHold_272 8 rfl ?_
                      refine J_iconst C dX5_doesHold_274 ?_
                      refine J_ixor C dX5_doesHold_275 ?_
                      refine J_istore (lo2 := [(7, vi (bXor x7 1)), (9, vi v7), (0, .ref (gad g 44)), (1, vi x1), (2, .ref (gad g x2)), (3, vi x3), (4, vi x4), (5, vi x5), (6, vi x6), (8, vi x8)]) C 7 dX5_doesHold_276 (by decide) rfl ?_
                      exact J_sub [2, 3, 4, 5, 6, 7, 8, 0, 9] rfl (pc15 (bXor x7 1) (rg_toInt _) x8 h8 h)
      · have e9 := sE h
        subst e9
        exact J_sub [7] rfl (k h7)
    · have e9 := sE h
      subst e9
      exact J_sub [7] rfl (k h7)
set_option maxRecDepth 100000 in
set_option maxHeartbeats 4000000 in
theorem m_X5_doesHold (l : Launch) (g : Gm) (hg : gInj yC g) (x1 : Int) (h1 : rg x1) (x2 : Nat) (h2 : isCues x2) (x3 : Int) (h3 : rg x3) (x4 : Int) (h4 : rg x4) (x5 : Int) (h5 : rg x5) (x6 : Int) (h6 : rg x6) (σ : Sg) (hσ : wfS yC σ) (q : Int) (h : fX5_doesHold x1 x2 x3 x4 x5 x6 σ = some q) : CJ l yC g yX5_doesHold cX5_doesHold 10 (some .boolean) 2 42 [.ref (gad g 44), vi x1, .ref (gad g x2), vi x3, vi x4, vi x5, vi x6] σ (some (vi q)) σ (q = 0 ∨ q = 1) := by
  refine CJ_of hg (by decide) rfl (Nat.le_of_ble_eq_true rfl) (lo := [(0, .ref (gad g 44)), (1, vi x1), (2, .ref (gad g x2)), (3, vi x3), (4, vi x4), (5, vi x5), (6, vi x6)]) rfl (fun x C E => ?_)
  unfold fX5_doesHold at h
  refine J_iload_n C 1 dX5_doesHold_0 rfl 1 rfl ?_
  refine J_if_lt C h1 (tgt := 10) dX5_doesHold_1 (by decide) h (fun h c81 => ?_) (fun h c81 => ?_)
  · refine J_iconst C dX5_doesHold_10 ?_
    have e9 := sE h
    subst e9
    exact J_zret C (Or.inl rfl) E (Or.inl rfl) dX5_doesHold_11
  · refine J_iload_n C 1 dX5_doesHold_4 rfl 1 rfl ?_
    refine J_bipush C dX5_doesHold_5 (bp8 (by decide) (by decide)) ?_
    refine J_icmp_lt C h1 rl_8 (tgt := 12) dX5_doesHold_7 (by decide) h (fun h c80 => ?_) (fun h c80 => ?_)
    · refine J_iconst C dX5_doesHold_12 ?_
      refine J_istore (lo2 := [(7, vi 0), (0, .ref (gad g 44)), (1, vi x1), (2, .ref (gad g x2)), (3, vi x3), (4, vi x4), (5, vi x5), (6, vi x6)]) C 7 dX5_doesHold_13 (by decide) rfl ?_
      refine J_iconst C dX5_doesHold_15 ?_
      refine J_istore (lo2 := [(8, vi 0), (7, vi 0), (0, .ref (gad g 44)), (1, vi x1), (2, .ref (gad g x2)), (3, vi x3), (4, vi x4), (5, vi x5), (6, vi x6)]) C 8 dX5_doesHold_16 (by decide) rfl ?_
      obtain ⟨q77, cq77, h⟩ := bdS h
      refine J_sub [2, 3, 4, 5, 6, 7, 8, 1, 0] rfl (wX5_doesHold_L18 C fu x1 h1 x2 h2 x3 h3 x4 h4 x5 h5 x6 h6 0 rl_0 0 rl_0 σ hσ q77 cq77 (fun hr78 => ?_))
      refine J_iload C 7 dX5_doesHold_284 0 rfl ?_
      refine J_iconst C dX5_doesHold_286 ?_
      refine J_iand C dX5_doesHold_287 ?_
      refine J_iconst C dX5_doesHold_288 ?_
      refine J_icmp_ne C (rg_toInt _) rl_1 (tgt := 296) dX5_doesHold_289 (by decide) h (fun h c79 => ?_) (fun h c79 => ?_)
      · refine J_iconst C dX5_doesHold_292 ?_
        refine J_goto C (tgt := 297) dX5_doesHold_293 (by decide) ?_
        have e9 := sE h
        subst e9
        exact J_zret C (Or.inr rfl) E (Or.inr rfl) dX5_doesHold_297
      · refine J_iconst C dX5_doesHold_296 ?_
        have e9 := sE h
        subst e9
        exact J_zret C (Or.inl rfl) E (Or.inl rfl) dX5_doesHold_297
    · refine J_iconst C dX5_doesHold_10 ?_
      have e9 := sE h
      subst e9
      exact J_zret C (Or.inl rfl) E (Or.inl rfl) dX5_doesHold_11
set_option maxRecDepth 100000 in
set_option maxHeartbeats 4000000 in
theorem wX5_anyHolds_L3 {x : Ct} {g : Gm} (C : Cx x yC g 7 cX5_anyHolds RX5 3 71) : ∀ (n : Nat) (x1 : Nat) (h1 : isCues x1) (x2 : Int) (h2 : rg x2) (x3 : Int) (h3 : rg x3) (x4 : Int) (h4 : rg x4) (x5 : Int) (h5 : rg x5) (x6 : Int) (h6 : rg x6) (σ : Sg) (hσ : wfS yC σ) (q : (Unit) ⊕ (Unit)) (h : fX5_anyHolds_L3 n x1 x2 x3 x4 x5 x6 σ = some q) (k0 : ∀ a : Unit, q = .inl a → J x yC g 7 35 [] [] σ) (k1 : ∀ a : Unit, q = .inr a → J x yC g 7 43 [] [] σ), J x yC g 7 3 [(0, .ref (gad g 44)), (1, .ref (gad g x1)), (2, vi x2), (3, vi x3), (4, vi x4), (5, vi x5), (6, vi x6)] [] σ := by
  intro n
  induction n with
  | zero =>
    intro x1 h1 x2 h2 x3 h3 x4 h4 x5 h5 x6 h6 σ hσ q h k0 k1
    exact absurd h (by intro z; cases z)
  | succ n ih =>
    intro x1 h1 x2 h2 x3 h3 x4 h4 x5 h5 x6 h6 σ hσ q h k0 k1
    rw [fX5_anyHolds_L3] at h
    refine J_iload C 6 dX5_anyHolds_3 6 rfl ?_
    refine J_aload_n C 0 dX5_anyHolds_5 rfl 0 rfl ?_
    refine J_getI C fl_RX5_37 oC_44 rfl dX5_anyHolds_6 ?_
    refine J_icmp_ge C h6 (hσ 44 3 lC_44) (tgt := 43) dX5_anyHolds_9 (by decide) h (fun h c7 => ?_) (fun h c7 => ?_)
    · refine J_iload C 6 dX5_anyHolds_12 6 rfl ?_
      refine J_bipush C dX5_anyHolds_14 (bp8 (by decide) (by decide)) ?_
      refine J_icmp_ge C h6 rl_8 (tgt := 43) dX5_anyHolds_16 (by decide) h (fun h c6 => ?_) (fun h c6 => ?_)
      · refine J_aload_n C 0 dX5_anyHolds_19 rfl 0 rfl ?_
        refine J_iload C 6 dX5_anyHolds_20 6 rfl ?_
        refine J_aload_n C 1 dX5_anyHolds_22 rfl 1 rfl ?_
        refine J_iload_n C 2 dX5_anyHolds_23 rfl 2 rfl ?_
        refine J_iload_n C 3 dX5_anyHolds_24 rfl 3 rfl ?_
        refine J_iload C 4 dX5_anyHolds_25 4 rfl ?_
        refine J_iload C 5 dX5_anyHolds_27 5 rfl ?_
        obtain ⟨q1, cq1, h⟩ := bdS h
        refine J_callV C mw_X5_doesHold ml_RX5_40 (m_X5_doesHold x.2.1 g (CxI C) x6 h6 x1 h1 x2 h2 x3 h3 x4 h4 x5 h5 σ hσ q1 cq1) oC_44 rfl (Nat.le_of_ble_eq_true rfl) (Nat.le_of_ble_eq_true rfl) rfl rfl (Nat.le_of_ble_eq_true rfl) dX5_anyHolds_29 (fun hz2 => ?_)
        refine J_if_eq C (rg01 hz2) (tgt := 37) dX5_anyHolds_32 (by decide) h (fun h c5 => ?_) (fun h c5 => ?_)
        · refine J_iinc C 6 6 dX5_anyHolds_37 rfl (by decide) h (fun v3 hv4 h => ?_)
          refine J_goto C (tgt := 3) dX5_anyHolds_40 (by decide) ?_
          exact J_sub [1, 2, 3, 4, 5, 6, 0] rfl (ih x1 h1 x2 h2 x3 h3 x4 h4 x5 h5 v3 hv4 σ hσ q h k0 k1)
        · have e9 := sE h
          exact J_sub [] rfl (k0 () e9.symm)
      · have e9 := sE h
        exact J_sub [] rfl (k1 () e9.symm)
    · have e9 := sE h
      exact J_sub [] rfl (k1 () e9.symm)
set_option maxRecDepth 100000 in
set_option maxHeartbeats 4000000 in
theorem m_X5_anyHolds (l : Launch) (g : Gm) (hg : gInj yC g) (x1 : Nat) (h1 : isCues x1) (x2 : Int) (h2 : rg x2) (x3 : Int) (h3 : rg x3) (x4 : Int) (h4 : rg x4) (x5 : Int) (h5 : rg x5) (σ : Sg) (hσ : wfS yC σ) (q : Int) (h : fX5_anyHolds x1 x2 x3 x4 x5 σ = some q) : CJ l yC g yX5_anyHolds cX5_anyHolds 7 (some .boolean) 3 71 [.ref (gad g 44), .ref (gad g x1), vi x2, vi x3, vi x4, vi x5] σ (some (vi q)) σ (q = 0 ∨ q = 1) := by
  refine CJ_of hg (by decide) rfl (Nat.le_of_ble_eq_true rfl) (lo := [(0, .ref (gad g 44)), (1, .ref (gad g x1)), (2, vi x2), (3, vi x3), (4, vi x4), (5, vi x5)]) rfl (fun x C E => ?_)
  unfold fX5_anyHolds at h
  refine J_iconst C dX5_anyHolds_0 ?_
  refine J_istore (lo2 := [(6, vi 0), (0, .ref (gad g 44)), (1, .ref (gad g x1)), (2, vi x2), (3, vi x3), (4, vi x4), (5, vi x5)]) C 6 dX5_anyHolds_1 (by decide) rfl ?_
  obtain ⟨q8, cq8, h⟩ := bdS h
  refine J_sub [1, 2, 3, 4, 5, 6, 0] rfl (wX5_anyHolds_L3 C fu x1 h1 x2 h2 x3 h3 x4 h4 x5 h5 0 rl_0 σ hσ q8 cq8 (fun a9 ea9 => ?_) (fun a10 ea10 => ?_))
  · subst ea9
    have h := elL h
    refine J_iconst C dX5_anyHolds_35 ?_
    have e9 := sE h
    subst e9
    exact J_zret C (Or.inr rfl) E (Or.inr rfl) dX5_anyHolds_36
  · subst ea10
    have h := elR h
    refine J_iconst C dX5_anyHolds_43 ?_
    have e9 := sE h
    subst e9
    exact J_zret C (Or.inl rfl) E (Or.inl rfl) dX5_anyHolds_44
set_option maxRecDepth 100000 in
set_option maxHeartbeats 4000000 in
theorem m_X2_colourOf (l : Launch) (g : Gm) (hg : gInj yC g) (x1 : Int) (h1 : rg x1) (σ : Sg) (hσ : wfS yC σ) (q : Int) (h : fX2_colourOf x1 σ = some q) : CJ l yC g yX2_colourOf cX2_colourOf 2 (some .int) 1 21 [.ref (gad g 6), vi x1] σ (some (vi q)) σ (rg q) := by
  refine CJ_of hg (by decide) rfl (Nat.le_of_ble_eq_true rfl) (lo := [(0, .ref (gad g 6)), (1, vi x1)]) rfl (fun x C E => ?_)
  unfold fX2_colourOf at h
  refine J_aload_n C 0 dX2_colourOf_0 rfl 0 rfl ?_
  refine J_iload_n C 1 dX2_colourOf_1 rfl 1 rfl ?_
  obtain ⟨q1, cq1, h⟩ := bdS h
  refine J_callV C mw_X2_isTold ml_RX2_36 (m_X2_isTold x.2.1 g (CxI C) x1 h1 σ hσ q1 cq1) oC_6 rfl (Nat.le_of_ble_eq_true rfl) (Nat.le_of_ble_eq_true rfl) rfl rfl (Nat.le_of_ble_eq_true rfl) dX2_colourOf_2 (fun hz2 => ?_)
  refine J_if_eq C (rg01 hz2) (tgt := 17) dX2_colourOf_5 (by decide) h (fun h c5 => ?_) (fun h c5 => ?_)
  · refine J_iconst C dX2_colourOf_17 ?_
    have e9 := sE h
    subst e9
    exact J_iret C E rl_0 dX2_colourOf_18
  · refine J_aload_n C 0 dX2_colourOf_8 rfl 0 rfl ?_
    refine J_getR C fl_RX2_24 oC_6 rfl dX2_colourOf_9 ?_
    refine J_iload_n C 1 dX2_colourOf_12 rfl 1 rfl ?_
    refine J_iald C aC_11 hσ dX2_colourOf_13 h (fun v3 hv4 h => ?_)
    refine J_goto C (tgt := 18) dX2_colourOf_14 (by decide) ?_
    have e9 := sE h
    subst e9
    exact J_iret C E hv4 dX2_colourOf_18
set_option maxRecDepth 100000 in
set_option maxHeartbeats 4000000 in
theorem wX7_kindToFire_L61 {x : Ct} {g : Gm} (C : Cx x yC g 8 cX7_kindToFire RX7 4 101) : ∀ (n : Nat) (x2 : Int) (h2 : rg x2) (x4 : Int) (h4 : rg x4) (x5 : Int) (h5 : rg x5) (x6 : Int) (h6 : rg x6) (x7 : Int) (h7 : rg x7) (σ : Sg) (hσ : wfS yC σ) (q : (Int) ⊕ (Unit)) (h : fX7_kindToFire_L61 n x2 x4 x5 x6 x7 σ = some q) (k0 : ∀ a : Int, q = .inl a → rg a → J x yC g 8 138 [(7, vi a)] [] σ) (k1 : ∀ a : Unit, q = .inr a → J x yC g 8 147 [] [] σ), J x yC g 8 61 [(0, .ref (gad g 48)), (2, vi x2), (3, .ref (gad g 6)), (4, vi x4), (5, vi x5), (6, vi x6), (7, vi x7)] [] σ := by
  intro n
  induction n with
  | zero =>
    intro x2 h2 x4 h4 x5 h5 x6 h6 x7 h7 σ hσ q h k0 k1
    exact absurd h (by intro z; cases z)
  | succ n ih =>
    intro x2 h2 x4 h4 x5 h5 x6 h6 x7 h7 σ hσ q h k0 k1
    rw [fX7_kindToFire_L61] at h
    have pc11 : ∀ (x7 : Int) (h7 : rg x7), fX7_kindToFire_L61P141 (fX7_kindToFire_L61 n) x2 x4 x5 x6 x7 σ = some q → J x yC g 8 141 [(0, .ref (gad g 48)), (2, vi x2), (3, .ref (gad g 6)), (4, vi x4), (5, vi x5), (6, vi x6), (7, vi x7)] [] σ := by
      intro x7 h7 h
      unfold fX7_kindToFire_L61P141 at h
      refine J_iinc C 7 6 dX7_kindToFire_141 rfl (by decide) h (fun v12 hv13 h => ?_)
      refine J_goto C (tgt := 61) dX7_kindToFire_144 (by decide) ?_
      exact J_sub [1, 2, 3, 4, 5, 6, 0] rfl (ih x2 h2 x4 h4 x5 h5 x6 h6 v12 hv13 σ hσ q h k0 k1)
    refine J_iload C 7 dX7_kindToFire_61 6 rfl ?_
    refine J_bipush C dX7_kindToFire_63 (bp8 (by decide) (by decide)) ?_
    refine J_icmp_ge C h7 rl_12 (tgt := 147) dX7_kindToFire_65 (by decide) h (fun h c33 => ?_) (fun h c33 => ?_)
    · refine J_aload_n C 3 dX7_kindToFire_68 rfl 2 rfl ?_
      refine J_iload C 7 dX7_kindToFire_69 6 rfl ?_
      obtain ⟨q9, cq9, h⟩ := bdS h
      refine J_callV C mw_X2_isTold ml_RX7_120 (m_X2_isTold x.2.1 g (CxI C) x7 h7 σ hσ q9 cq9) oC_6 rfl (Nat.le_of_ble_eq_true rfl) (Nat.le_of_ble_eq_true rfl) rfl rfl (Nat.le_of_ble_eq_true rfl) dX7_kindToFire_71 (fun hz10 => ?_)
      refine J_if_eq C (rg01 hz10) (tgt := 141) dX7_kindToFire_74 (by decide) h (fun h c32 => ?_) (fun h c32 => ?_)
      · exact J_sub [0, 1, 2, 3, 4, 5, 6] rfl (pc11 x7 h7 h)
      · refine J_aload_n C 3 dX7_kindToFire_77 rfl 2 rfl ?_
        refine J_iload C 7 dX7_kindToFire_78 6 rfl ?_
        obtain ⟨q16, cq16, h⟩ := bdS h
        refine J_callV C mw_X2_colourOf ml_RX7_125 (m_X2_colourOf x.2.1 g (CxI C) x7 h7 σ hσ q16 cq16) oC_6 rfl (Nat.le_of_ble_eq_true rfl) (Nat.le_of_ble_eq_true rfl) rfl rfl (Nat.le_of_ble_eq_true rfl) dX7_kindToFire_80 (fun hz17 => ?_)
        refine J_aload_n C 3 dX7_kindToFire_83 rfl 2 rfl ?_
        refine J_iload C 4 dX7_kindToFire_84 3 rfl ?_
        obtain ⟨q18, cq18, h⟩ := bdS h
        refine J_callV C mw_X2_colourOf ml_RX7_125 (m_X2_colourOf x.2.1 g (CxI C) x4 h4 σ hσ q18 cq18) oC_6 rfl (Nat.le_of_ble_eq_true rfl) (Nat.le_of_ble_eq_true rfl) rfl rfl (Nat.le_of_ble_eq_true rfl) dX7_kindToFire_86 (fun hz19 => ?_)
        refine J_icmp_ne C hz17 hz19 (tgt := 141) dX7_kindToFire_89 (by decide) h (fun h c31 => ?_) (fun h c31 => ?_)
        · refine J_aload_n C 3 dX7_kindToFire_92 rfl 2 rfl ?_
          refine J_iload C 7 dX7_kindToFire_93 6 rfl ?_
          obtain ⟨q20, cq20, h⟩ := bdS h
          refine J_callV C mw_X2_liftOf ml_RX7_128 (m_X2_liftOf x.2.1 g (CxI C) x7 h7 σ hσ q20 cq20) oC_6 rfl (Nat.le_of_ble_eq_true rfl) (Nat.le_of_ble_eq_true rfl) rfl rfl (Nat.le_of_ble_eq_true rfl) dX7_kindToFire_95 (fun hz21 => ?_)
          refine J_aload_n C 3 dX7_kindToFire_98 rfl 2 rfl ?_
          refine J_iload C 4 dX7_kindToFire_99 3 rfl ?_
          obtain ⟨q22, cq22, h⟩ := bdS h
          refine J_callV C mw_X2_liftOf ml_RX7_128 (m_X2_liftOf x.2.1 g (CxI C) x4 h4 σ hσ q22 cq22) oC_6 rfl (Nat.le_of_ble_eq_true rfl) (Nat.le_of_ble_eq_true rfl) rfl rfl (Nat.le_of_ble_eq_true rfl) dX7_kindToFire_101 (fun hz23 => ?_)
          refine J_icmp_gt C hz21 hz23 (tgt := 141) dX7_kindToFire_104 (by decide) h (fun h c30 => ?_) (fun h c30 => ?_)
          · refine J_aload_n C 0 dX7_kindToFire_107 rfl 0 rfl ?_
            refine J_getR C fl_RX7_31 oC_48 rfl dX7_kindToFire_108 ?_
            refine J_iload C 7 dX7_kindToFire_111 6 rfl ?_
            refine J_iload C 5 dX7_kindToFire_113 4 rfl ?_
            refine J_iload C 6 dX7_kindToFire_115 5 rfl ?_
            refine J_iload_n C 2 dX7_kindToFire_117 rfl 1 rfl ?_
            obtain ⟨q24, cq24, h⟩ := bdS h
            refine J_callV C mw_X8_isSafe ml_RX7_116 (m_X8_isSafe x.2.1 g (CxI C) x7 h7 x5 h5 x6 h6 x2 h2 σ hσ q24 cq24) oC_1 rfl (Nat.le_of_ble_eq_true rfl) (Nat.le_of_ble_eq_true rfl) rfl rfl (Nat.le_of_ble_eq_true rfl) dX7_kindToFire_118 (fun hz25 => ?_)
            refine J_if_eq C (rg01 hz25) (tgt := 141) dX7_kindToFire_121 (by decide) h (fun h c29 => ?_) (fun h c29 => ?_)
            · exact J_sub [0, 1, 2, 3, 4, 5, 6] rfl (pc11 x7 h7 h)
            · refine J_aload_n C 0 dX7_kindToFire_124 rfl 0 rfl ?_
              refine J_getR C fl_RX7_31 oC_48 rfl dX7_kindToFire_125 ?_
              refine J_iload C 5 dX7_kindToFire_128 4 rfl ?_
              refine J_iload C 7 dX7_kindToFire_130 6 rfl ?_
              obtain ⟨q26, cq26, h⟩ := bdS h
              refine J_callV C mw_X8_holds ml_RX7_131 (m_X8_holds x.2.1 g (CxI C) x5 h5 x7 h7 σ hσ q26 cq26) oC_1 rfl (Nat.le_of_ble_eq_true rfl) (Nat.le_of_ble_eq_true rfl) rfl rfl (Nat.le_of_ble_eq_true rfl) dX7_kindToFire_132 (fun hz27 => ?_)
              refine J_if_eq C (rg01 hz27) (tgt := 141) dX7_kindToFire_135 (by decide) h (fun h c28 => ?_) (fun h c28 => ?_)
              · exact J_sub [0, 1, 2, 3, 4, 5, 6] rfl (pc11 x7 h7 h)
              · have e9 := sE h
                exact J_sub [6] rfl (k0 x7 e9.symm h7)
          · exact J_sub [0, 1, 2, 3, 4, 5, 6] rfl (pc11 x7 h7 h)
        · exact J_sub [0, 1, 2, 3, 4, 5, 6] rfl (pc11 x7 h7 h)
    · have e9 := sE h
      exact J_sub [] rfl (k1 () e9.symm)
set_option maxRecDepth 100000 in
set_option maxHeartbeats 4000000 in
theorem m_X7_kindToFire (l : Launch) (g : Gm) (hg : gInj yC g) (x1 : Int) (h1 : rg x1) (x2 : Int) (h2 : rg x2) (σ : Sg) (hσ : wfS yC σ) (q : Int) (h : fX7_kindToFire x1 x2 σ = some q) : CJ l yC g yX7_kindToFire cX7_kindToFire 8 (some .int) 4 101 [.ref (gad g 48), vi x1, vi x2] σ (some (vi q)) σ (rg q) := by
  refine CJ_of hg (by decide) rfl (Nat.le_of_ble_eq_true rfl) (lo := [(0, .ref (gad g 48)), (1, vi x1), (2, vi x2)]) rfl (fun x C E => ?_)
  unfold fX7_kindToFire at h
  refine J_aload_n C 0 dX7_kindToFire_0 rfl 0 rfl ?_
  refine J_getR C fl_RX7_31 oC_48 rfl dX7_kindToFire_1 ?_
  refine J_getR C fl_RX7_109 oC_1 rfl dX7_kindToFire_4 ?_
  refine J_astore_n (lo2 := [(3, .ref (gad g 6)), (0, .ref (gad g 48)), (1, vi x1), (2, vi x2)]) C 3 dX7_kindToFire_7 rfl (by decide) rfl ?_
  refine J_aload_n C 0 dX7_kindToFire_8 rfl 1 rfl ?_
  refine J_getR C fl_RX7_35 oC_48 rfl dX7_kindToFire_9 ?_
  refine J_iload_n C 1 dX7_kindToFire_12 rfl 2 rfl ?_
  obtain ⟨q1, cq1, h⟩ := bdS h
  refine J_callV C mw_X1_kindOf ml_RX7_94 (m_X1_kindOf x.2.1 g (CxI C) 19 cues_19 x1 h1 σ hσ q1 cq1) cues_19.1 rfl (Nat.le_of_ble_eq_true rfl) (Nat.le_of_ble_eq_true rfl) rfl rfl (Nat.le_of_ble_eq_true rfl) dX7_kindToFire_13 (fun hz2 => ?_)
  refine J_istore (lo2 := [(4, vi q1), (3, .ref (gad g 6)), (0, .ref (gad g 48)), (1, vi x1), (2, vi x2)]) C 4 dX7_kindToFire_16 (by decide) rfl ?_
  refine J_aload_n C 0 dX7_kindToFire_18 rfl 2 rfl ?_
  refine J_getR C fl_RX7_35 oC_48 rfl dX7_kindToFire_19 ?_
  refine J_iload_n C 1 dX7_kindToFire_22 rfl 3 rfl ?_
  obtain ⟨q3, cq3, h⟩ := bdS h
  refine J_callV C mw_X1_bargeOf ml_RX7_97 (m_X1_bargeOf x.2.1 g (CxI C) 19 cues_19 x1 h1 σ hσ q3 cq3) cues_19.1 rfl (Nat.le_of_ble_eq_true rfl) (Nat.le_of_ble_eq_true rfl) rfl rfl (Nat.le_of_ble_eq_true rfl) dX7_kindToFire_23 (fun hz4 => ?_)
  refine J_istore (lo2 := [(5, vi q3), (4, vi q1), (3, .ref (gad g 6)), (0, .ref (gad g 48)), (1, vi x1), (2, vi x2)]) C 5 dX7_kindToFire_26 (by decide) rfl ?_
  refine J_aload_n C 0 dX7_kindToFire_28 rfl 3 rfl ?_
  refine J_getR C fl_RX7_35 oC_48 rfl dX7_kindToFire_29 ?_
  refine J_iload_n C 1 dX7_kindToFire_32 rfl 4 rfl ?_
  obtain ⟨q5, cq5, h⟩ := bdS h
  refine J_callV C mw_X1_angleOf ml_RX7_113 (m_X1_angleOf x.2.1 g (CxI C) 19 cues_19 x1 h1 σ hσ q5 cq5) cues_19.1 rfl (Nat.le_of_ble_eq_true rfl) (Nat.le_of_ble_eq_true rfl) rfl rfl (Nat.le_of_ble_eq_true rfl) dX7_kindToFire_33 (fun hz6 => ?_)
  refine J_istore (lo2 := [(6, vi q5), (5, vi q3), (4, vi q1), (3, .ref (gad g 6)), (0, .ref (gad g 48)), (1, vi x1), (2, vi x2)]) C 6 dX7_kindToFire_36 (by decide) rfl ?_
  refine J_aload_n C 0 dX7_kindToFire_38 rfl 4 rfl ?_
  refine J_getR C fl_RX7_31 oC_48 rfl dX7_kindToFire_39 ?_
  refine J_iload C 4 dX7_kindToFire_42 2 rfl ?_
  refine J_iload C 5 dX7_kindToFire_44 1 rfl ?_
  refine J_iload C 6 dX7_kindToFire_46 0 rfl ?_
  refine J_iload_n C 2 dX7_kindToFire_48 rfl 6 rfl ?_
  obtain ⟨q7, cq7, h⟩ := bdS h
  refine J_callV C mw_X8_isSafe ml_RX7_116 (m_X8_isSafe x.2.1 g (CxI C) q1 hz2 q3 hz4 q5 hz6 x2 h2 σ hσ q7 cq7) oC_1 rfl (Nat.le_of_ble_eq_true rfl) (Nat.le_of_ble_eq_true rfl) rfl rfl (Nat.le_of_ble_eq_true rfl) dX7_kindToFire_49 (fun hz8 => ?_)
  refine J_if_eq C (rg01 hz8) (tgt := 58) dX7_kindToFire_52 (by decide) h (fun h c38 => ?_) (fun h c38 => ?_)
  · refine J_iconst C dX7_kindToFire_58 ?_
    refine J_istore (lo2 := [(7, vi 0), (6, vi q5), (5, vi q3), (4, vi q1), (3, .ref (gad g 6)), (0, .ref (gad g 48)), (1, vi x1), (2, vi x2)]) C 7 dX7_kindToFire_59 (by decide) rfl ?_
    obtain ⟨q34, cq34, h⟩ := bdS h
    refine J_sub [5, 7, 4, 3, 2, 1, 0] rfl (wX7_kindToFire_L61 C fu x2 h2 q1 hz2 q3 hz4 q5 hz6 0 rl_0 σ hσ q34 cq34 (fun a35 ea35 hr36 => ?_) (fun a37 ea37 => ?_))
    · subst ea35
      have h := elL h
      refine J_iload C 7 dX7_kindToFire_138 0 rfl ?_
      have e9 := sE h
      subst e9
      exact J_iret C E hr36 dX7_kindToFire_140
    · subst ea37
      have h := elR h
      refine J_iconst C dX7_kindToFire_147 ?_
      have e9 := sE h
      subst e9
      exact J_iret C E rl_m1 dX7_kindToFire_148
  · refine J_iload C 4 dX7_kindToFire_55 2 rfl ?_
    have e9 := sE h
    subst e9
    exact J_iret C E hz2 dX7_kindToFire_57
set_option maxRecDepth 100000 in
set_option maxHeartbeats 4000000 in
theorem m_X7_reckonFate (l : Launch) (g : Gm) (hg : gInj yC g) (x1 : Int) (h1 : rg x1) (x2 : Int) (h2 : rg x2) (x3 : Int) (h3 : rg x3) (σ : Sg) (hσ : wfS yC σ) (q : Sg) (h : fX7_reckonFate x1 x2 x3 σ = some q) : CJ l yC g yX7_reckonFate cX7_reckonFate 6 none 5 128 [.ref (gad g 48), vi x1, vi x2, vi x3] σ none q (wfS yC q) := by
  refine CJ_of hg (by decide) rfl (Nat.le_of_ble_eq_true rfl) (lo := [(0, .ref (gad g 48)), (1, vi x1), (2, vi x2), (3, vi x3)]) rfl (fun x C E => ?_)
  unfold fX7_reckonFate at h
  have pc18 : ∀ (x5 : Int) (h5 : rg x5) (y0 : Int) (g0 : rg y0) (y1 : Int) (g1 : rg y1) (σ : Sg) (hσ : wfS yC σ), fX7_reckonFate_P170 x1 x5 y0 y1 σ = some q → J x yC g 6 170 [(0, .ref (gad g 48)), (1, vi x1), (5, vi x5)] [vi y0, vi y1, .ref (gad g 52)] σ := by
    intro x5 h5 y0 g0 y1 g1 σ hσ h
    unfold fX7_reckonFate_P170 at h
    refine J_iast C aC_52 hσ g0 dX7_reckonFate_170 h (fun σ19 hσ20 h => ?_)
    refine J_aload_n C 0 dX7_reckonFate_171 rfl 0 rfl ?_
    refine J_getR C fl_RX7_24 oC_48 rfl dX7_reckonFate_172 ?_
    refine J_iload_n C 1 dX7_reckonFate_175 rfl 1 rfl ?_
    refine J_iload C 5 dX7_reckonFate_176 2 rfl ?_
    refine J_iast C aC_53 hσ20 h5 dX7_reckonFate_178 h (fun σ21 hσ22 h => ?_)
    have e9 := sE h
    subst e9
    exact J_vret C E hσ22 dX7_reckonFate_179
  have pc9 : ∀ (x4 : Int) (h4 : rg x4) (σ : Sg) (hσ : wfS yC σ), fX7_reckonFate_P84 x1 x2 x3 x4 σ = some q → J x yC g 6 84 [(0, .ref (gad g 48)), (1, vi x1), (2, vi x2), (3, vi x3), (4, vi x4)] [] σ := by
    intro x4 h4 σ hσ h
    unfold fX7_reckonFate_P84 at h
    refine J_aload_n C 0 dX7_reckonFate_84 rfl 0 rfl ?_
    refine J_getR C fl_RX7_43 oC_48 rfl dX7_reckonFate_85 ?_
    refine J_aload_n C 0 dX7_reckonFate_88 rfl 0 rfl ?_
    refine J_getR C fl_RX7_35 oC_48 rfl dX7_reckonFate_89 ?_
    refine J_iload_n C 1 dX7_reckonFate_92 rfl 1 rfl ?_
    refine J_iload_n C 2 dX7_reckonFate_93 rfl 2 rfl ?_
    refine J_iload C 4 dX7_reckonFate_94 4 rfl ?_
    refine J_iload_n C 3 dX7_reckonFate_96 rfl 3 rfl ?_
    obtain ⟨q10, cq10, h⟩ := bdS h
    refine J_callV C mw_X5_anyHolds ml_RX7_100 (m_X5_anyHolds x.2.1 g (CxI C) 19 cues_19 x1 h1 x2 h2 x4 h4 x3 h3 σ hσ q10 cq10) oC_44 rfl (Nat.le_of_ble_eq_true rfl) (Nat.le_of_ble_eq_true rfl) rfl rfl (Nat.le_of_ble_eq_true rfl) dX7_reckonFate_97 (fun hz11 => ?_)
    refine J_if_eq C (rg01 hz11) (tgt := 113) dX7_reckonFate_100 (by decide) h (fun h c32 => ?_) (fun h c32 => ?_)
    · refine J_aload_n C 0 dX7_reckonFate_113 rfl 0 rfl ?_
      refine J_iload_n C 1 dX7_reckonFate_114 rfl 1 rfl ?_
      refine J_iload C 4 dX7_reckonFate_115 4 rfl ?_
      obtain ⟨q12, cq12, h⟩ := bdS h
      refine J_callV C mw_X7_kindToFire ml_RX7_106 (m_X7_kindToFire x.2.1 g (CxI C) x1 h1 x4 h4 σ hσ q12 cq12) oC_48 rfl (Nat.le_of_ble_eq_true rfl) (Nat.le_of_ble_eq_true rfl) rfl rfl (Nat.le_of_ble_eq_true rfl) dX7_reckonFate_117 (fun hz13 => ?_)
      refine J_istore (lo2 := [(5, vi q12), (0, .ref (gad g 48)), (1, vi x1), (2, vi x2), (3, vi x3), (4, vi x4)]) C 5 dX7_reckonFate_120 (by decide) rfl ?_
      refine J_aload_n C 0 dX7_reckonFate_122 rfl 1 rfl ?_
      refine J_getR C fl_RX7_21 oC_48 rfl dX7_reckonFate_123 ?_
      refine J_iload_n C 1 dX7_reckonFate_126 rfl 2 rfl ?_
      refine J_iload C 5 dX7_reckonFate_127 0 rfl ?_
      refine J_iconst C dX7_reckonFate_129 ?_
      refine J_icmp_ne C hz13 rl_m1 (tgt := 137) dX7_reckonFate_130 (by decide) h (fun h c29 => ?_) (fun h c29 => ?_)
      · refine J_iconst C dX7_reckonFate_133 ?_
        refine J_goto C (tgt := 170) dX7_reckonFate_134 (by decide) ?_
        exact J_sub [1, 2, 0] rfl (pc18 q12 hz13 2 rl_2 x1 h1 σ hσ h)
      · refine J_aload_n C 0 dX7_reckonFate_137 rfl 1 rfl ?_
        refine J_getR C fl_RX7_9 oC_48 rfl dX7_reckonFate_138 ?_
        refine J_iload_n C 1 dX7_reckonFate_141 rfl 2 rfl ?_
        refine J_iald C aC_49 hσ dX7_reckonFate_142 h (fun v14 hv15 h => ?_)
        refine J_bipush C dX7_reckonFate_143 (bp8 (by decide) (by decide)) ?_
        refine J_icmp_ne C hv15 rl_6 (tgt := 152) dX7_reckonFate_145 (by decide) h (fun h c28 => ?_) (fun h c28 => ?_)
        · refine J_iconst C dX7_reckonFate_148 ?_
          refine J_goto C (tgt := 170) dX7_reckonFate_149 (by decide) ?_
          exact J_sub [1, 2, 0] rfl (pc18 q12 hz13 5 rl_5 x1 h1 σ hσ h)
        · refine J_iload C 5 dX7_reckonFate_152 0 rfl ?_
          refine J_aload_n C 0 dX7_reckonFate_154 rfl 1 rfl ?_
          refine J_getR C fl_RX7_35 oC_48 rfl dX7_reckonFate_155 ?_
          refine J_iload_n C 1 dX7_reckonFate_158 rfl 2 rfl ?_
          obtain ⟨q16, cq16, h⟩ := bdS h
          refine J_callV C mw_X1_kindOf ml_RX7_94 (m_X1_kindOf x.2.1 g (CxI C) 19 cues_19 x1 h1 σ hσ q16 cq16) cues_19.1 rfl (Nat.le_of_ble_eq_true rfl) (Nat.le_of_ble_eq_true rfl) rfl rfl (Nat.le_of_ble_eq_true rfl) dX7_reckonFate_159 (fun hz17 => ?_)
          refine J_icmp_ne C hz13 hz17 (tgt := 169) dX7_reckonFate_162 (by decide) h (fun h c27 => ?_) (fun h c27 => ?_)
          · refine J_iconst C dX7_reckonFate_165 ?_
            refine J_goto C (tgt := 170) dX7_reckonFate_166 (by decide) ?_
            exact J_sub [1, 2, 0] rfl (pc18 q12 hz13 0 rl_0 x1 h1 σ hσ h)
          · refine J_iconst C dX7_reckonFate_169 ?_
            exact J_sub [1, 2, 0] rfl (pc18 q12 hz13 1 rl_1 x1 h1 σ hσ h)
    · refine J_aload_n C 0 dX7_reckonFate_103 rfl 0 rfl ?_
      refine J_getR C fl_RX7_21 oC_48 rfl dX7_reckonFate_104 ?_
      refine J_iload_n C 1 dX7_reckonFate_107 rfl 1 rfl ?_
      refine J_iconst C dX7_reckonFate_108 ?_
      refine J_iast C aC_52 hσ rl_3 dX7_reckonFate_109 h (fun σ30 hσ31 h => ?_)
      refine J_goto C (tgt := 179) dX7_reckonFate_110 (by decide) ?_
      have e9 := sE h
      subst e9
      exact J_vret C E hσ31 dX7_reckonFate_179
  refine J_iload_n C 1 dX7_reckonFate_0 rfl 1 rfl ?_
  refine J_if_lt C h1 (tgt := 10) dX7_reckonFate_1 (by decide) h (fun h c55 => ?_) (fun h c55 => ?_)
  · have e9 := sE h
    subst e9
    exact J_vret C E hσ dX7_reckonFate_10
  · refine J_iload_n C 1 dX7_reckonFate_4 rfl 1 rfl ?_
    refine J_bipush C dX7_reckonFate_5 (bp8 (by decide) (by decide)) ?_
    refine J_icmp_lt C h1 rl_120 (tgt := 11) dX7_reckonFate_7 (by decide) h (fun h c54 => ?_) (fun h c54 => ?_)
    · refine J_aload_n C 0 dX7_reckonFate_11 rfl 0 rfl ?_
      refine J_getR C fl_RX7_39 oC_48 rfl dX7_reckonFate_12 ?_
      refine J_iload_n C 2 dX7_reckonFate_15 rfl 2 rfl ?_
      obtain ⟨q1, cq1, h⟩ := bdS h
      refine J_callV C mw_X4_windKnown ml_RX7_89 (m_X4_windKnown x.2.1 g (CxI C) x2 h2 σ hσ q1 cq1) oC_40 rfl (Nat.le_of_ble_eq_true rfl) (Nat.le_of_ble_eq_true rfl) rfl rfl (Nat.le_of_ble_eq_true rfl) dX7_reckonFate_16 (fun hz2 => ?_)
      refine J_istore (lo2 := [(4, vi q1), (0, .ref (gad g 48)), (1, vi x1), (2, vi x2), (3, vi x3)]) C 4 dX7_reckonFate_19 (by decide) rfl ?_
      refine J_aload_n C 0 dX7_reckonFate_21 rfl 1 rfl ?_
      refine J_getR C fl_RX7_24 oC_48 rfl dX7_reckonFate_22 ?_
      refine J_iload_n C 1 dX7_reckonFate_25 rfl 2 rfl ?_
      refine J_aload_n C 0 dX7_reckonFate_26 rfl 1 rfl ?_
      refine J_getR C fl_RX7_35 oC_48 rfl dX7_reckonFate_27 ?_
      refine J_iload_n C 1 dX7_reckonFate_30 rfl 2 rfl ?_
      obtain ⟨q3, cq3, h⟩ := bdS h
      refine J_callV C mw_X1_kindOf ml_RX7_94 (m_X1_kindOf x.2.1 g (CxI C) 19 cues_19 x1 h1 σ hσ q3 cq3) cues_19.1 rfl (Nat.le_of_ble_eq_true rfl) (Nat.le_of_ble_eq_true rfl) rfl rfl (Nat.le_of_ble_eq_true rfl) dX7_reckonFate_31 (fun hz4 => ?_)
      refine J_iast C aC_53 hσ hz4 dX7_reckonFate_34 h (fun σ5 hσ6 h => ?_)
      refine J_aload_n C 0 dX7_reckonFate_35 rfl 1 rfl ?_
      refine J_getR C fl_RX7_35 oC_48 rfl dX7_reckonFate_36 ?_
      refine J_iload_n C 1 dX7_reckonFate_39 rfl 2 rfl ?_
      obtain ⟨q7, cq7, h⟩ := bdS h
      refine J_callV C mw_X1_bargeOf ml_RX7_97 (m_X1_bargeOf x.2.1 g (CxI C) 19 cues_19 x1 h1 σ5 hσ6 q7 cq7) cues_19.1 rfl (Nat.le_of_ble_eq_true rfl) (Nat.le_of_ble_eq_true rfl) rfl rfl (Nat.le_of_ble_eq_true rfl) dX7_reckonFate_40 (fun hz8 => ?_)
      refine J_iconst C dX7_reckonFate_43 ?_
      refine J_icmp_ne C hz8 rl_m1 (tgt := 58) dX7_reckonFate_44 (by decide) h (fun h c53 => ?_) (fun h c53 => ?_)
      · refine J_aload_n C 0 dX7_reckonFate_47 rfl 1 rfl ?_
        refine J_getR C fl_RX7_21 oC_48 rfl dX7_reckonFate_48 ?_
        refine J_iload_n C 1 dX7_reckonFate_51 rfl 2 rfl ?_
        refine J_bipush C dX7_reckonFate_52 (bp8 (by decide) (by decide)) ?_
        refine J_iast C aC_52 hσ6 rl_6 dX7_reckonFate_54 h (fun σ51 hσ52 h => ?_)
        refine J_goto C (tgt := 179) dX7_reckonFate_55 (by decide) ?_
        have e9 := sE h
        subst e9
        exact J_vret C E hσ52 dX7_reckonFate_179
      · refine J_aload_n C 0 dX7_reckonFate_58 rfl 1 rfl ?_
        refine J_getI C fl_RX7_27 oC_48 rfl dX7_reckonFate_59 ?_
        refine J_iconst C dX7_reckonFate_62 ?_
        refine J_icmp_eq C (hσ6 48 9 lC_48) rl_m1 (tgt := 84) dX7_reckonFate_63 (by decide) h (fun h c50 => ?_) (fun h c50 => ?_)
        · exact J_sub [1, 2, 3, 4, 0] rfl (pc9 q1 hz2 σ5 hσ6 h)
        · refine J_iload_n C 2 dX7_reckonFate_66 rfl 3 rfl ?_
          refine J_aload_n C 0 dX7_reckonFate_67 rfl 1 rfl ?_
          refine J_getI C fl_RX7_27 oC_48 rfl dX7_reckonFate_68 ?_
          refine J_icmp_lt C h2 (hσ6 48 9 lC_48) (tgt := 84) dX7_reckonFate_71 (by decide) h (fun h c49 => ?_) (fun h c49 => ?_)
          · exact J_sub [1, 2, 3, 4, 0] rfl (pc9 q1 hz2 σ5 hσ6 h)
          · refine J_aload_n C 0 dX7_reckonFate_74 rfl 1 rfl ?_
            refine J_getR C fl_RX7_21 oC_48 rfl dX7_reckonFate_75 ?_
            refine J_iload_n C 1 dX7_reckonFate_78 rfl 2 rfl ?_
            refine J_iconst C dX7_reckonFate_79 ?_
            refine J_iast C aC_52 hσ6 rl_4 dX7_reckonFate_80 h (fun σ47 hσ48 h => ?_)
            refine J_goto C (tgt := 179) dX7_reckonFate_81 (by decide) ?_
            have e9 := sE h
            subst e9
            exact J_vret C E hσ48 dX7_reckonFate_179
    · have e9 := sE h
      subst e9
      exact J_vret C E hσ dX7_reckonFate_10
set_option maxRecDepth 100000 in
set_option maxHeartbeats 4000000 in
theorem wX7_reckon_L6 {x : Ct} {g : Gm} (C : Cx x yC g 2 cX7_reckon RX7 6 153) : ∀ (n : Nat) (x1 : Int) (h1 : rg x1) (σ : Sg) (hσ : wfS yC σ) (q : Sg) (h : fX7_reckon_L6 n x1 σ = some q) (k : wfS yC q → J x yC g 2 56 [] [] q), J x yC g 2 6 [(0, .ref (gad g 48)), (1, vi x1)] [] σ := by
  intro n
  induction n with
  | zero =>
    intro x1 h1 σ hσ q h k
    exact absurd h (by intro z; cases z)
  | succ n ih =>
    intro x1 h1 σ hσ q h k
    rw [fX7_reckon_L6] at h
    refine J_iload_n C 1 dX7_reckon_6 rfl 1 rfl ?_
    refine J_aload_n C 0 dX7_reckon_7 rfl 0 rfl ?_
    refine J_getR C fl_RX7_35 oC_48 rfl dX7_reckon_8 ?_
    refine J_getI C fl_RX7_69 cues_19.1 rfl dX7_reckon_11 ?_
    refine J_icmp_ge C h1 (hσ 19 4 cues_19.2.1) (tgt := 56) dX7_reckon_14 (by decide) h (fun h c16 => ?_) (fun h c16 => ?_)
    · refine J_iload_n C 1 dX7_reckon_17 rfl 1 rfl ?_
      refine J_bipush C dX7_reckon_18 (bp8 (by decide) (by decide)) ?_
      refine J_icmp_ge C h1 rl_120 (tgt := 56) dX7_reckon_20 (by decide) h (fun h c15 => ?_) (fun h c15 => ?_)
      · refine J_aload_n C 0 dX7_reckon_23 rfl 0 rfl ?_
        refine J_aload_n C 0 dX7_reckon_24 rfl 0 rfl ?_
        refine J_getR C fl_RX7_15 oC_48 rfl dX7_reckon_25 ?_
        refine J_iload_n C 1 dX7_reckon_28 rfl 1 rfl ?_
        refine J_iald C aC_50 hσ dX7_reckon_29 h (fun v3 hv4 h => ?_)
        refine J_aload_n C 0 dX7_reckon_30 rfl 0 rfl ?_
        refine J_getR C fl_RX7_18 oC_48 rfl dX7_reckon_31 ?_
        refine J_iload_n C 1 dX7_reckon_34 rfl 1 rfl ?_
        refine J_iald C aC_51 hσ dX7_reckon_35 h (fun v5 hv6 h => ?_)
        refine J_aload_n C 0 dX7_reckon_36 rfl 0 rfl ?_
        refine J_iload_n C 1 dX7_reckon_37 rfl 1 rfl ?_
        refine J_aload_n C 0 dX7_reckon_38 rfl 0 rfl ?_
        refine J_getR C fl_RX7_18 oC_48 rfl dX7_reckon_39 ?_
        refine J_iload_n C 1 dX7_reckon_42 rfl 1 rfl ?_
        refine J_iald C aC_51 hσ dX7_reckon_43 h (fun v7 hv8 h => ?_)
        obtain ⟨q9, cq9, h⟩ := bdS h
        refine J_callV C mw_X7_misfiresSeen ml_RX7_72 (m_X7_misfiresSeen x.2.1 g (CxI C) x1 h1 v7 hv8 σ hσ q9 cq9) oC_48 rfl (Nat.le_of_ble_eq_true rfl) (Nat.le_of_ble_eq_true rfl) rfl rfl (Nat.le_of_ble_eq_true rfl) dX7_reckon_44 (fun hz10 => ?_)
        obtain ⟨q11, cq11, h⟩ := bdS h
        refine J_callV C mw_X7_reckonFate ml_RX7_76 (m_X7_reckonFate x.2.1 g (CxI C) v3 hv4 v5 hv6 q9 hz10 σ hσ q11 cq11) oC_48 rfl (Nat.le_of_ble_eq_true rfl) (Nat.le_of_ble_eq_true rfl) rfl rfl (Nat.le_of_ble_eq_true rfl) dX7_reckon_47 (fun hz12 => ?_)
        refine J_iinc C 1 1 dX7_reckon_50 rfl (by decide) h (fun v13 hv14 h => ?_)
        refine J_goto C (tgt := 6) dX7_reckon_53 (by decide) ?_
        exact J_sub [1, 0] rfl (ih v13 hv14 q11 hz12 q h k)
      · have e9 := sE h
        subst e9
        exact J_sub [] rfl (k hσ)
    · have e9 := sE h
      subst e9
      exact J_sub [] rfl (k hσ)
set_option maxRecDepth 100000 in
set_option maxHeartbeats 4000000 in
theorem m_X7_reckon (l : Launch) (g : Gm) (hg : gInj yC g)  (σ : Sg) (hσ : wfS yC σ) (q : Sg) (h : fX7_reckon  σ = some q) : CJ l yC g yX7_reckon cX7_reckon 2 none 6 153 [.ref (gad g 48)] σ none q (wfS yC q) := by
  refine CJ_of hg (by decide) rfl (Nat.le_of_ble_eq_true rfl) (lo := [(0, .ref (gad g 48))]) rfl (fun x C E => ?_)
  unfold fX7_reckon at h
  refine J_aload_n C 0 dX7_reckon_0 rfl 0 rfl ?_
  obtain ⟨q1, cq1, h⟩ := bdS h
  refine J_callV C mw_X7_sortByFire ml_RX7_66 (m_X7_sortByFire x.2.1 g (CxI C) σ hσ q1 cq1) oC_48 rfl (Nat.le_of_ble_eq_true rfl) (Nat.le_of_ble_eq_true rfl) rfl rfl (Nat.le_of_ble_eq_true rfl) dX7_reckon_1 (fun hz2 => ?_)
  refine J_iconst C dX7_reckon_4 ?_
  refine J_istore_n (lo2 := [(1, vi 0), (0, .ref (gad g 48))]) C 1 dX7_reckon_5 rfl (by decide) rfl ?_
  obtain ⟨q17, cq17, h⟩ := bdS h
  refine J_sub [1, 0] rfl (wX7_reckon_L6 C fu 0 rl_0 q1 hz2 q17 cq17 (fun hσ18 => ?_))
  have e9 := sE h
  subst e9
  exact J_vret C E hσ18 dX7_reckon_56
set_option maxRecDepth 100000 in
set_option maxHeartbeats 4000000 in
theorem m_X11_fate (l : Launch) (g : Gm) (hg : gInj yC g) (x1 : Int) (h1 : rg x1) (σ : Sg) (hσ : wfS yC σ) (q : Int × Sg) (h : fX11_fate x1 σ = some q) : CJ l yC g yX11_fate cX11_fate 2 (some .int) 7 174 [.ref (gad g 0), vi x1] σ (some (vi q.1)) q.2 ((rg q.1) ∧ wfS yC q.2) := by
  refine CJ_of hg (by decide) rfl (Nat.le_of_ble_eq_true rfl) (lo := [(0, .ref (gad g 0)), (1, vi x1)]) rfl (fun x C E => ?_)
  unfold fX11_fate at h
  refine J_aload_n C 0 dX11_fate_0 rfl 0 rfl ?_
  refine J_getR C fl_RX11_19 oC_0 rfl dX11_fate_1 ?_
  refine J_iload_n C 1 dX11_fate_4 rfl 1 rfl ?_
  obtain ⟨q1, cq1, h⟩ := bdS h
  refine J_callV C mw_X1_isCue ml_RX11_199 (m_X1_isCue x.2.1 g (CxI C) 19 cues_19 x1 h1 σ hσ q1 cq1) cues_19.1 rfl (Nat.le_of_ble_eq_true rfl) (Nat.le_of_ble_eq_true rfl) rfl rfl (Nat.le_of_ble_eq_true rfl) dX11_fate_5 (fun hz2 => ?_)
  refine J_if_ne C (rg01 hz2) (tgt := 13) dX11_fate_8 (by decide) h (fun h c7 => ?_) (fun h c7 => ?_)
  · refine J_iconst C dX11_fate_11 ?_
    have e9 := sE h
    subst e9
    exact J_iret C E ⟨rl_m1, hσ⟩ dX11_fate_12
  · refine J_aload_n C 0 dX11_fate_13 rfl 0 rfl ?_
    refine J_getR C fl_RX11_60 oC_0 rfl dX11_fate_14 ?_
    obtain ⟨q3, cq3, h⟩ := bdS h
    refine J_callV C mw_X7_reckon ml_RX11_291 (m_X7_reckon x.2.1 g (CxI C) σ hσ q3 cq3) oC_48 rfl (Nat.le_of_ble_eq_true rfl) (Nat.le_of_ble_eq_true rfl) rfl rfl (Nat.le_of_ble_eq_true rfl) dX11_fate_17 (fun hz4 => ?_)
    refine J_aload_n C 0 dX11_fate_20 rfl 0 rfl ?_
    refine J_getR C fl_RX11_60 oC_0 rfl dX11_fate_21 ?_
    refine J_iload_n C 1 dX11_fate_24 rfl 1 rfl ?_
    obtain ⟨q5, cq5, h⟩ := bdS h
    refine J_callV C mw_X7_fateOf ml_RX11_294 (m_X7_fateOf x.2.1 g (CxI C) x1 h1 q3 hz4 q5 cq5) oC_48 rfl (Nat.le_of_ble_eq_true rfl) (Nat.le_of_ble_eq_true rfl) rfl rfl (Nat.le_of_ble_eq_true rfl) dX11_fate_25 (fun hz6 => ?_)
    have e9 := sE h
    subst e9
    exact J_iret C E ⟨hz6, hz4⟩ dX11_fate_28
